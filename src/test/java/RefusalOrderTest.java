/**
 * The term REFUSALS, "of several the first one here": each call with every mixture of numbers that
 * are good or wrong, where the answer that is due is that of the first wrong one.
 */
public final class RefusalOrderTest {
    private static final Due due = new Due("RefusalOrderTest");
    private static final int[] UNKNOWN_BOXES = {0, -1, House.BOXES + 1, Integer.MIN_VALUE, Integer.MAX_VALUE};
    private static final long[] WRONG_TIMES = {House.NOW - 1, 0, -1, Edges.LAST_TIME + 1, Long.MIN_VALUE, Long.MAX_VALUE};

    /** "UNKNOWN" is ahead of all, whatever the other numbers are. */
    private static void unknownFirst() {
        LockerRows x = House.busy();
        for (int box : UNKNOWN_BOXES) {
            due.is(x, Call.put(box, 1, House.NOW), LockerRows.UNKNOWN);
            due.is(x, Call.put(box, 0, House.NOW), LockerRows.UNKNOWN);
            due.is(x, Call.put(box, 10000, House.NOW), LockerRows.UNKNOWN);
            due.is(x, Call.door(box, -1, House.NOW), LockerRows.UNKNOWN);
            due.is(x, Call.door(box, 5, House.NOW), LockerRows.UNKNOWN);
            due.is(x, Call.take(box, 0), LockerRows.UNKNOWN);
            due.is(x, Call.take(box, -1), LockerRows.UNKNOWN);
            due.is(x, Call.take(box, 10), LockerRows.UNKNOWN);
            due.is(x, Call.item(box), LockerRows.UNKNOWN);
            for (long t : WRONG_TIMES) {
                due.is(x, Call.put(box, 1, t), LockerRows.UNKNOWN);
                due.is(x, Call.put(box, 0, t), LockerRows.UNKNOWN);
                due.is(x, Call.close(box, t), LockerRows.UNKNOWN);
                due.is(x, Call.door(box, 0, t), LockerRows.UNKNOWN);
                due.is(x, Call.door(box, 5, t), LockerRows.UNKNOWN);
            }
        }
    }

    /** "OUTSIDE" is ahead of STATE, of ROOM and of every answer of a call that does nothing. */
    private static void outsideBeforeState() {
        for (int box = 1; box <= House.BOXES; box++) {
            LockerRows x = House.busy();
            for (long t : WRONG_TIMES) {
                due.is(x, Call.close(box, t), LockerRows.OUTSIDE);
                due.is(x, Call.put(box, 1, t), LockerRows.OUTSIDE);
                due.is(x, Call.put(box, 0, t), LockerRows.OUTSIDE);
                for (int event = 0; event <= 4; event++) {
                    due.is(x, Call.door(box, event, t), LockerRows.OUTSIDE);
                }
                due.is(x, Call.door(box, 5, t), LockerRows.OUTSIDE);
            }
            due.is(x, Call.put(box, 0, House.NOW), LockerRows.OUTSIDE);
            due.is(x, Call.put(box, 10000, House.NOW), LockerRows.OUTSIDE);
            due.is(x, Call.door(box, -1, House.NOW), LockerRows.OUTSIDE);
            due.is(x, Call.door(box, 5, House.NOW), LockerRows.OUTSIDE);
            due.is(x, Call.take(box, -1), LockerRows.OUTSIDE);
            due.is(x, Call.take(box, 10), LockerRows.OUTSIDE);
        }
    }

    /** "OUTSIDE" is ahead of ROOM. */
    private static void outsideBeforeRoom() {
        due.is(House.withSixtyBoxes(), Call.box(0), LockerRows.OUTSIDE);
        due.is(House.withSixtyBoxes(), Call.box(6), LockerRows.OUTSIDE);
        due.is(House.withSixtyBoxes(), Call.box(5), LockerRows.ROOM);
        due.is(House.withAFullTape(), Call.tape(-1), LockerRows.OUTSIDE);
        due.is(House.withAFullTape(), Call.tape(1000000), LockerRows.OUTSIDE);
        due.is(House.withAFullTape(), Call.tape(999999), LockerRows.ROOM);
        for (long t : WRONG_TIMES) {
            due.is(House.withoutCodes(), Call.close(House.OPEN_WITH_A_NEW_ITEM, t), LockerRows.OUTSIDE);
        }
        due.is(House.withoutCodes(), Call.close(House.OPEN_WITH_A_NEW_ITEM, House.NOW), LockerRows.ROOM);
    }

    /** "STATE" is ahead of ROOM: a forced box with an item that wants a code which the tape does not have. */
    private static void stateBeforeRoom() {
        due.is(House.withoutCodes(), Call.close(House.FORCED_WITH_A_NEW_ITEM, House.NOW), LockerRows.STATE);
    }

    /** "OUTSIDE" is ahead of the wait of the keypad, of a wrong code, and of 0 when there is no box to keep. */
    private static void outsideBeforeOtherAnswers() {
        LockerRows waits = House.busy();
        due.is("the third wrong code", waits.type(3, House.NOW), 0);
        for (int code : new int[] {-1, 1000000}) {
            due.is(waits, Call.type(code, House.NOW), LockerRows.OUTSIDE);
        }
        for (long t : WRONG_TIMES) {
            due.is(waits, Call.type(800, t), LockerRows.OUTSIDE);
            due.is(waits, Call.type(-1, t), LockerRows.OUTSIDE);
            due.is(waits, Call.tick(t), LockerRows.OUTSIDE);
        }
        due.is("the wait", waits.type(800, House.NOW), -1);
        LockerRows none = new LockerRows();
        due.is("no box", none.reserve(1, 1), 0);
        due.is("no box, a wrong size", none.reserve(6, 1), LockerRows.OUTSIDE);
        due.is("no box, a wrong until", none.reserve(1, 0), LockerRows.OUTSIDE);
        due.is("no box, both wrong", none.reserve(0, 0), LockerRows.OUTSIDE);
    }

    public static void main(String[] args) {
        unknownFirst();
        outsideBeforeState();
        outsideBeforeRoom();
        stateBeforeRoom();
        outsideBeforeOtherAnswers();
        due.end();
    }
}
