/** The edges of promise 9: events 0 .. 4, boxes that are there, and doors that are not so. */
public final class DoorEdgesTest {
    private static final Due due = new Due("DoorEdgesTest");

    /** "UNKNOWN": the first and the last box are known, the ones beside them are not. */
    private static void boxesUnknown() {
        for (int count : new int[] {1, 2, 59, 60}) {
            LockerRows x = Due.withEqualBoxes(count, 1);
            for (int box : Edges.outside(1, count)) {
                for (int event = 0; event <= 4; event++) {
                    due.is(x, Call.door(box, event, 5), LockerRows.UNKNOWN);
                }
            }
            due.is("no time has passed", x.door(count, 3, 0), LockerRows.OUT);
            due.is("the first of " + count, x.door(1, 0, 0), count == 1 ? LockerRows.STATE : LockerRows.OPEN);
        }
    }

    /** "OUTSIDE (an event": 0 and 4 are good, -1 and 5 are not. */
    private static void events() {
        LockerRows x = Due.withBoxes(1);
        for (int event : Edges.outside(0, 4)) {
            due.is(x, Call.door(1, event, 5), LockerRows.OUTSIDE);
        }
        due.is("no time has passed", x.door(1, 4, 0), LockerRows.STATE);
        due.is("the door is shut still", x.door(1, 0, 0), LockerRows.OPEN);
        for (int event : Edges.outside(0, 4)) {
            due.is(x, Call.door(1, event, 5), LockerRows.OUTSIDE);
        }
        due.is("the door is open still", x.close(1, 0), -1);
        x.door(1, 3, 0);
        due.is("the last event", x.door(1, 4, 0), LockerRows.SHUT);
    }

    /** "3: one that is shut, with an empty box that is not kept": each of the three alone refuses it. */
    private static void outOfOrder() {
        LockerRows x = Due.withBoxes(1, 1, 1, 1);
        x.tape(4);
        due.is("shut, empty and not kept", x.door(1, 3, 0), LockerRows.OUT);
        due.is("out already", x.door(1, 3, 0), LockerRows.STATE);
        x.door(2, 0, 0);
        due.is("open, but empty and not kept", x.door(2, 3, 0), LockerRows.STATE);
        x.door(2, 1, 0);
        due.is("forced, but empty and not kept", x.door(2, 3, 0), LockerRows.STATE);
        Due.store(x, 3, 1, 0);
        due.is("full, but shut and not kept", x.door(3, 3, 0), LockerRows.STATE);
        due.is("keeping", x.reserve(1, 20), 4);
        due.is("kept, but shut and empty: a second before until", x.door(4, 3, 19), LockerRows.STATE);
        due.is("at until", x.door(4, 3, 20), LockerRows.OUT);
    }

    /** A box that is shut with an item in it that has no code is not empty. */
    private static void outOfOrderWithAnItemThatDoesNotLie() {
        LockerRows x = Due.withBoxes(1);
        x.door(1, 0, 0);
        x.put(1, 1, 0);
        x.door(1, 1, 0);
        x.door(1, 2, 0);
        due.is("shut, not kept, but full", x.door(1, 3, 0), LockerRows.STATE);
        due.is("it is not for keeping either", x.reserve(1, 1), 0);
    }

    /** A box that is out of order does nothing but come back. */
    private static void whileOutOfOrder() {
        LockerRows x = Due.withBoxes(1);
        x.door(1, 3, 0);
        for (int event = 0; event <= 3; event++) {
            due.is(x, Call.door(1, event, 0), LockerRows.STATE);
        }
        due.is("close", x.close(1, 0), LockerRows.STATE);
        due.is("put", x.put(1, 1, 0), 0);
        due.is("take", x.take(1, 0), 0);
        due.is("reserve", x.reserve(1, 1), 0);
        due.is("it gives no alarm", x.tick(Edges.LAST_TIME), 0);
        due.is("it comes back", x.door(1, 4, Edges.LAST_TIME), LockerRows.SHUT);
        due.is("once", x.door(1, 4, Edges.LAST_TIME), LockerRows.STATE);
    }

    /** A forced door cannot be closed, opened or forced again: mending is what is left. */
    private static void whileForced() {
        LockerRows x = Due.withBoxes(1);
        x.door(1, 1, 0);
        for (int event : new int[] {0, 1, 3, 4}) {
            due.is(x, Call.door(1, event, 0), LockerRows.STATE);
        }
        due.is("close", x.close(1, 0), LockerRows.STATE);
        due.is("it is mended", x.door(1, 2, 0), LockerRows.SHUT);
        due.is("once", x.door(1, 2, 0), LockerRows.STATE);
    }

    /** "STATE" of a forced door does not begin its opening anew. */
    private static void refusedForcingDoesNotBeginAnew() {
        LockerRows x = Due.withBoxes(1);
        x.door(1, 1, 0);
        due.is("forced again", x.door(1, 1, 60), LockerRows.STATE);
        due.is("119 seconds", x.tick(119), 0);
        due.is("120 seconds", x.tick(120), 1);
        due.is("forced again", x.door(1, 1, 130), LockerRows.STATE);
        due.is("it is told once", x.tick(500), 0);
    }

    public static void main(String[] args) {
        boxesUnknown();
        events();
        outOfOrder();
        outOfOrderWithAnItemThatDoesNotLie();
        whileOutOfOrder();
        whileForced();
        refusedForcingDoesNotBeginAnew();
        due.end();
    }
}
