/** Promise 1: no boxes, an empty tape; and nothing is shared between objects. */
public final class NewObjectTest {
    public static void main(String[] args) {
        Due due = new Due("NewObjectTest");
        LockerRows x = new LockerRows();
        due.is("item(1)", x.item(1), LockerRows.UNKNOWN);
        due.is("take(1, 0)", x.take(1, 0), LockerRows.UNKNOWN);
        due.is("door(1, 0, 0)", x.door(1, 0, 0), LockerRows.UNKNOWN);
        due.is("put(1, 1, 0)", x.put(1, 1, 0), LockerRows.UNKNOWN);
        due.is("close(1, 0)", x.close(1, 0), LockerRows.UNKNOWN);
        due.is("reserve(1, 1)", x.reserve(1, 1), 0);
        due.is("code(1)", x.code(1), -1);
        due.is("type(0, 0)", x.type(0, 0), 0);
        due.is("freed(0)", x.freed(0), 0);
        due.is("tick(0)", x.tick(0), 0);
        due.is("the first tape", x.tape(4), 1);
        due.is("the first box", x.box(1), 1);
        due.is("door(1, 4, 0) of a new box, which is shut", x.door(1, 4, 0), LockerRows.STATE);
        due.is("item(1) of a new box, which is empty", x.item(1), 0);

        LockerRows other = new LockerRows();
        due.is("tape of another object", other.tape(5), 1);
        due.is("box of another object", other.box(1), 1);

        LockerRows bare = Due.withBoxes(1);
        bare.door(1, 0, 0);
        bare.put(1, 1, 0);
        due.is("close with the empty tape", bare.close(1, 0), LockerRows.ROOM);
        due.end();
    }
}
