/** The edges of promise 2: sizes 1 .. 5, and 60 boxes at most. */
public final class BoxEdgesTest {
    private static final Due due = new Due("BoxEdgesTest");

    /** "have sizes 1 .. 5" */
    private static void everySizeFromOneToFive() {
        LockerRows x = new LockerRows();
        for (int size = 1; size <= 5; size++) {
            due.is(x, Call.box(size), size);
        }
        due.is("box 5 has the size 5", x.reserve(5, 1), 5);
        due.is("no other has", x.reserve(5, 1), 0);
        due.is("box 1 has the size 1", x.reserve(1, 1), 1);
    }

    /** "OUTSIDE (a size is not 1 .. 5)": and no number is used up by it. */
    private static void sizesOutside() {
        LockerRows x = new LockerRows();
        for (int size : Edges.outside(1, 5)) {
            due.is(x, Call.box(size), LockerRows.OUTSIDE);
        }
        due.is("there is no box", x.item(1), LockerRows.UNKNOWN);
        due.is("the next number is the first", x.box(1), 1);
        due.is(x, Call.box(0), LockerRows.OUTSIDE);
        due.is("the next number is the second", x.box(5), 2);
    }

    /** "BOXES 1, 2, .. (60 at most)", "ROOM" */
    private static void theSixtiethIsTheLast() {
        LockerRows x = Due.withEqualBoxes(59, 1);
        due.is("60 is not there yet", x.item(60), LockerRows.UNKNOWN);
        due.is("the 60th", x.box(5), 60);
        due.is("60 is there", x.item(60), 0);
        for (int size = 1; size <= 5; size++) {
            due.is("the 61st of size " + size, x.box(size), LockerRows.ROOM);
        }
        due.is("61 is not there", x.item(61), LockerRows.UNKNOWN);
        due.is("the 60th has kept its size", x.reserve(5, 1), 60);
        due.is("no larger one came", x.reserve(2, 1), 0);
    }

    /** The last box is as good as the first. */
    private static void theSixtiethIsUsed() {
        LockerRows x = Due.withEqualBoxes(60, 3);
        x.tape(6);
        due.is(x, Call.door(60, 0, 1), LockerRows.OPEN);
        due.is(x, Call.put(60, 7, 1), 1);
        due.is(x, Call.close(60, 1), 6);
        due.is(x, Call.item(60), 7);
        due.is(x, Call.type(6, 2), 60);
        due.is(x, Call.take(60, 0), 0);
        due.is("its opening is told", x.tick(122), 1);
    }

    /** "of several the first one here": OUTSIDE is ahead of ROOM. */
    private static void aWrongSizeWithoutRoom() {
        LockerRows x = Due.withEqualBoxes(60, 3);
        for (int size : Edges.outside(1, 5)) {
            due.is(x, Call.box(size), LockerRows.OUTSIDE);
        }
        due.is(x, Call.box(1), LockerRows.ROOM);
    }

    public static void main(String[] args) {
        everySizeFromOneToFive();
        sizesOutside();
        theSixtiethIsTheLast();
        theSixtiethIsUsed();
        aWrongSizeWithoutRoom();
        due.end();
    }
}
