/** The edges of promise 1: what is not there yet, and what the terms say is so 'at first'. */
public final class NewObjectEdgesTest {
    private static final Due due = new Due("NewObjectEdgesTest");

    /** "No boxes" */
    private static void noNumberIsABox() {
        LockerRows x = new LockerRows();
        for (int box : new int[] {0, 1, 2, 60, 61, -1, Integer.MIN_VALUE, Integer.MAX_VALUE}) {
            due.is(x, Call.put(box, 1, 0), LockerRows.UNKNOWN);
            due.is(x, Call.close(box, 0), LockerRows.UNKNOWN);
            due.is(x, Call.door(box, 0, 0), LockerRows.UNKNOWN);
            due.is(x, Call.take(box, 0), LockerRows.UNKNOWN);
            due.is(x, Call.item(box), LockerRows.UNKNOWN);
        }
        for (int size = 1; size <= 5; size++) {
            due.is(x, Call.reserve(size, 1), 0);
        }
    }

    /** "an empty tape" */
    private static void noNumberIsOnTheTape() {
        LockerRows x = Due.withBoxes(1);
        due.is("close with an item, no number", Due.store(x, 1, 1, 0), LockerRows.ROOM);
        due.is("the first number", x.tape(0), 1);
        due.is("close with an item, one number", x.close(1, 0), 0);
    }

    /** "TIME is in seconds, 0 at first" */
    private static void theTimeIsZero() {
        LockerRows x = Due.withBoxes(1);
        due.is(x, Call.tick(-1), LockerRows.OUTSIDE);
        due.is(x, Call.reserve(1, 0), LockerRows.OUTSIDE);
        due.is(x, Call.tick(0), 0);
        due.is(x, Call.reserve(1, 1), 1);
    }

    /** "shut at first", "A box is EMPTY", "A box may be KEPT" */
    private static void aNewBoxIsShutEmptyAndNotKept() {
        LockerRows x = Due.withBoxes(1, 1, 1);
        due.is("not open", x.close(1, 0), LockerRows.STATE);
        due.is("not forced", x.door(1, 2, 0), LockerRows.STATE);
        due.is("not out of order", x.door(1, 4, 0), LockerRows.STATE);
        due.is("shut, empty and not kept: it goes out of order", x.door(1, 3, 0), LockerRows.OUT);
        due.is("shut: it is opened", x.door(2, 0, 0), LockerRows.OPEN);
        due.is("empty", x.item(3), 0);
        due.is("not kept", x.reserve(1, 1), 3);
    }

    /** Nothing was typed, told, freed or lies in a new object, at its first time and its last. */
    private static void nothingHasHappened() {
        LockerRows x = Due.withBoxes(1);
        due.is("no row of wrong codes: 1", x.type(0, 0), 0);
        due.is("no row of wrong codes: 2", x.type(0, 0), 0);
        due.is("no row of wrong codes: 3", x.type(0, 0), 0);
        due.is("the row was three", x.type(0, 0), -1);
        due.is("no alarm at the first time", x.tick(0), 0);
        due.is("no alarm at the last time", x.tick(Edges.LAST_TIME), 0);
        due.is("freed(0)", x.freed(0), 0);
        due.is("code(1)", x.code(1), -1);
        due.is("code(9999)", x.code(9999), -1);
    }

    public static void main(String[] args) {
        noNumberIsABox();
        noNumberIsOnTheTape();
        theTimeIsZero();
        aNewBoxIsShutEmptyAndNotKept();
        nothingHasHappened();
        due.end();
    }
}
