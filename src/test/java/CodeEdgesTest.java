/** The edges of promise 8: items 1 .. 9999, and when an item begins and ends to lie. */
public final class CodeEdgesTest {
    private static final Due due = new Due("CodeEdgesTest");

    /** "OUTSIDE (an item is not 1 .. 9999)" */
    private static void items() {
        LockerRows x = Due.withBoxes(1, 1);
        Due.tape(x, 0, 999999);
        for (int item : Edges.outside(1, 9999)) {
            due.is(x, Call.code(item), LockerRows.OUTSIDE);
        }
        due.is("the first item, nowhere", x.code(1), -1);
        due.is("the last item, nowhere", x.code(9999), -1);
        Due.store(x, 1, 1, 0);
        Due.store(x, 2, 9999, 0);
        due.is("the first item, with the least code", x.code(1), 0);
        due.is("the last item, with the greatest code", x.code(9999), 999999);
        for (int item : Edges.outside(1, 9999)) {
            due.is(x, Call.code(item), LockerRows.OUTSIDE);
        }
        due.is("the item beside the first", x.code(2), -1);
        due.is("the item beside the last", x.code(9998), -1);
    }

    /** "-1 when it does not": before the closing, while ROOM refuses it, and from taking or typing on. */
    private static void fromTheClosingToTheEnd() {
        LockerRows x = Due.withBoxes(1);
        x.door(1, 0, 0);
        due.is("not put", x.code(7), -1);
        x.put(1, 7, 0);
        due.is("put", x.code(7), -1);
        x.close(1, 0);
        due.is("ROOM", x.code(7), -1);
        Due.tape(x, 8, 9);
        x.close(1, 0);
        due.is("closed", x.code(7), 8);
        x.door(1, 1, 0);
        x.take(1, 0);
        due.is("taken", x.code(7), -1);
        x.door(1, 2, 0);
        Due.store(x, 1, 7, 0);
        due.is("closed again", x.code(7), 9);
        x.type(9, 0);
        due.is("typed", x.code(7), -1);
    }

    /** "as long as it lies there, also when the door is opened by a carrier or forced" */
    private static void behindEveryDoor() {
        LockerRows x = Due.withBoxes(1);
        x.tape(8);
        Due.store(x, 1, 7, 0);
        due.is("shut", x.code(7), 8);
        x.door(1, 0, 0);
        due.is("opened", x.code(7), 8);
        x.door(1, 1, 0);
        due.is("forced", x.code(7), 8);
        x.door(1, 2, 0);
        due.is("mended", x.code(7), 8);
        x.tick(604800);
        due.is("late", x.code(7), 8);
        x.tick(Edges.LAST_TIME);
        due.is("at the last time", x.code(7), 8);
    }

    public static void main(String[] args) {
        items();
        fromTheClosingToTheEnd();
        behindEveryDoor();
        due.end();
    }
}
