/** The edges of promise 4: sizes 1 .. 5, and until above the time and not above 2000000000. */
public final class ReserveEdgesTest {
    private static final Due due = new Due("ReserveEdgesTest");

    /** "at least so large": a box of the size itself is, one that is smaller by one is not. */
    private static void justLargeEnough() {
        for (int size = 1; size <= 5; size++) {
            for (int asked = 1; asked <= 5; asked++) {
                LockerRows x = Due.withBoxes(size);
                due.is("size " + asked + " of a box of " + size, x.reserve(asked, 1), size >= asked ? 1 : 0);
            }
        }
    }

    /** "OUTSIDE (a size is not 1 .. 5": and nothing is kept then. */
    private static void sizesOutside() {
        LockerRows x = Due.withBoxes(1, 5);
        for (int size : Edges.outside(1, 5)) {
            due.is(x, Call.reserve(size, 1), LockerRows.OUTSIDE);
        }
        due.is(x, Call.reserve(1, 1), 1);
        due.is(x, Call.reserve(5, 1), 2);
    }

    /** "until not above the time, or above 2000000000": at the first time, between, and at the last but one. */
    private static void untilAboveTheTime() {
        for (long now : new long[] {0, 1, 1000, 1999999998L, 1999999999L}) {
            LockerRows x = Due.withBoxes(1, 1);
            x.tick(now);
            for (long until : Edges.timesOutside(now + 1)) {
                due.is(x, Call.reserve(1, until), LockerRows.OUTSIDE);
            }
            due.is("nothing was kept", x.door(1, 3, now), LockerRows.OUT);
            x.door(1, 4, now);
            due.is("until the next second", x.reserve(1, now + 1), 1);
            due.is("until the last time", x.reserve(1, Edges.LAST_TIME), 2);
            x.tick(now + 1);
            due.is("the first is freed", x.freed(0), 1);
            x.tick(Edges.LAST_TIME);
            due.is("the second is freed", x.freed(1), 2);
        }
    }

    /** At the last time there is no until that is above it and not above 2000000000. */
    private static void noneAtTheLastTime() {
        LockerRows x = Due.withBoxes(1);
        x.tick(Edges.LAST_TIME);
        due.is(x, Call.reserve(1, Edges.LAST_TIME), LockerRows.OUTSIDE);
        due.is(x, Call.reserve(1, Edges.LAST_TIME - 1), LockerRows.OUTSIDE);
        for (long until : Edges.timesOutside(Edges.LAST_TIME)) {
            due.is(x, Call.reserve(1, until), LockerRows.OUTSIDE);
        }
        due.is("nothing is kept", x.door(1, 3, Edges.LAST_TIME), LockerRows.OUT);
    }

    /** reserve has no t: it is above the time that the calls before it have set. */
    private static void noTimePasses() {
        LockerRows x = Due.withBoxes(1, 1);
        due.is(x, Call.reserve(1, 500), 1);
        due.is(x, Call.reserve(1, 499), 2);
        due.is("the time is still 0", x.tick(0), 0);
        due.is("nothing is freed", x.freed(0), 0);
    }

    /** "0 when there is none": all 60 may be kept, and each comes once. */
    private static void allSixtyAreKept() {
        LockerRows x = Due.withEqualBoxes(60, 3);
        for (int box = 1; box <= 60; box++) {
            due.is("keeping " + box, x.reserve(1 + box % 3, 10), box);
        }
        for (int size = 1; size <= 5; size++) {
            due.is("none of size " + size, x.reserve(size, 10), 0);
        }
        x.tick(10);
        due.is("freed(59)", x.freed(59), 60);
        due.is("the first again", x.reserve(3, 11), 1);
    }

    /** "0 when there is none" comes behind OUTSIDE, and refuses nothing that is good. */
    private static void noneAndOutside() {
        LockerRows x = new LockerRows();
        due.is(x, Call.reserve(1, 1), 0);
        due.is(x, Call.reserve(5, Edges.LAST_TIME), 0);
        due.is(x, Call.reserve(0, 1), LockerRows.OUTSIDE);
        due.is(x, Call.reserve(6, 1), LockerRows.OUTSIDE);
        due.is(x, Call.reserve(1, 0), LockerRows.OUTSIDE);
        due.is(x, Call.reserve(1, Edges.LAST_TIME + 1), LockerRows.OUTSIDE);
    }

    /** "the smallest one, of these the least": of boxes in falling sizes, and of equal ones. */
    private static void smallestAndLeast() {
        LockerRows falling = Due.withBoxes(5, 4, 3, 2, 1);
        for (int size = 1; size <= 5; size++) {
            due.is("falling, size " + size, falling.reserve(1, 10), 6 - size);
        }
        LockerRows equal = Due.withBoxes(2, 1, 2, 1, 2);
        for (int box : new int[] {1, 3, 5, 0}) {
            due.is("equal, size 2", equal.reserve(2, 10), box);
        }
        due.is("size 1", equal.reserve(1, 10), 2);
        due.is("size 1 again", equal.reserve(1, 10), 4);
    }

    public static void main(String[] args) {
        justLargeEnough();
        sizesOutside();
        untilAboveTheTime();
        noneAtTheLastTime();
        noTimePasses();
        allSixtyAreKept();
        noneAndOutside();
        smallestAndLeast();
        due.end();
    }
}
