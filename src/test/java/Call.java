import java.util.function.ToIntFunction;

/** One call that can be made on any object, with its name for what is printed. */
record Call(String name, ToIntFunction<LockerRows> made) {
    int on(LockerRows x) {
        return made.applyAsInt(x);
    }

    static Call box(int size) {
        return new Call("box(" + size + ")", x -> x.box(size));
    }

    static Call tape(int v) {
        return new Call("tape(" + v + ")", x -> x.tape(v));
    }

    static Call reserve(int size, long until) {
        return new Call("reserve(" + size + ", " + until + ")", x -> x.reserve(size, until));
    }

    static Call put(int box, int item, long t) {
        return new Call("put(" + box + ", " + item + ", " + t + ")", x -> x.put(box, item, t));
    }

    static Call close(int box, long t) {
        return new Call("close(" + box + ", " + t + ")", x -> x.close(box, t));
    }

    static Call type(int code, long t) {
        return new Call("type(" + code + ", " + t + ")", x -> x.type(code, t));
    }

    static Call code(int item) {
        return new Call("code(" + item + ")", x -> x.code(item));
    }

    static Call door(int box, int event, long t) {
        return new Call("door(" + box + ", " + event + ", " + t + ")", x -> x.door(box, event, t));
    }

    static Call tick(long t) {
        return new Call("tick(" + t + ")", x -> x.tick(t));
    }

    static Call take(int box, int carrier) {
        return new Call("take(" + box + ", " + carrier + ")", x -> x.take(box, carrier));
    }

    static Call item(int box) {
        return new Call("item(" + box + ")", x -> x.item(box));
    }

    static Call freed(int i) {
        return new Call("freed(" + i + ")", x -> x.freed(i));
    }
}
