/** Promise 4: reserve. */
public final class ReserveTest {
    private static final Due due = new Due("ReserveTest");

    private static void smallestThenLeast() {
        LockerRows x = Due.withBoxes(5, 3, 2, 3, 1, 4);
        due.is("size 3", x.reserve(3, 10), 2);
        due.is("size 3 again", x.reserve(3, 10), 4);
        due.is("size 3, the next larger", x.reserve(3, 10), 6);
        due.is("size 3, the largest", x.reserve(3, 10), 1);
        due.is("size 3, none", x.reserve(3, 10), 0);
        due.is("size 1", x.reserve(1, 10), 5);
        due.is("size 1, the next larger", x.reserve(1, 10), 3);
        due.is("size 1, none", x.reserve(1, 10), 0);
        x.tick(10);
        due.is("size 5 after it was freed", x.reserve(5, 11), 1);
    }

    private static void onlyShutEmptyAndNotKept() {
        LockerRows x = Due.withBoxes(1, 1, 1, 1, 1, 1);
        x.tape(9);
        x.door(1, 0, 0);
        x.door(2, 1, 0);
        x.door(3, 3, 0);
        Due.store(x, 4, 1, 0);
        due.is("not open, forced, out, full", x.reserve(1, 10), 5);
        due.is("not kept", x.reserve(1, 10), 6);
        due.is("none", x.reserve(1, 10), 0);
        x.close(1, 0);
        due.is("closed again", x.reserve(1, 10), 1);
        x.door(2, 2, 0);
        due.is("mended", x.reserve(1, 10), 2);
        x.door(3, 4, 0);
        due.is("in order again", x.reserve(1, 10), 3);
        x.type(9, 0);
        due.is("emptied, but open", x.reserve(1, 10), 0);
        x.close(4, 0);
        due.is("emptied and shut", x.reserve(1, 10), 4);
    }

    private static void keptWhileOpened() {
        LockerRows x = Due.withBoxes(2);
        x.reserve(1, 10);
        x.door(1, 0, 0);
        x.close(1, 0);
        due.is("opening does not end the keeping", x.reserve(1, 10), 0);
    }

    private static void wrongNumbers() {
        LockerRows x = Due.withBoxes(5);
        x.tick(100);
        for (int size : new int[] {0, 6, -1, Integer.MAX_VALUE, Integer.MIN_VALUE}) {
            due.is("reserve(" + size + ", 101)", x.reserve(size, 101), LockerRows.OUTSIDE);
        }
        for (long until : new long[] {100, 99, 0, -1, 2000000001L, Long.MAX_VALUE, Long.MIN_VALUE, 4294967397L}) {
            due.is("reserve(1, " + until + ")", x.reserve(1, until), LockerRows.OUTSIDE);
        }
        due.is("until the last time", x.reserve(1, 2000000000L), 1);
        due.is("no room, but a wrong size", x.reserve(0, 101), LockerRows.OUTSIDE);
    }

    public static void main(String[] args) {
        smallestThenLeast();
        onlyShutEmptyAndNotKept();
        keptWhileOpened();
        wrongNumbers();
        due.end();
    }
}
