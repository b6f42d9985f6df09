/** Promise 9: door. */
public final class DoorTest {
    private static final Due due = new Due("DoorTest");

    /** A box whose door has the state that is asked for. */
    private static LockerRows withDoor(int state) {
        LockerRows x = Due.withBoxes(1);
        if (state == LockerRows.OPEN) {
            x.door(1, 0, 0);
        } else if (state == LockerRows.FORCED) {
            x.door(1, 1, 0);
        } else if (state == LockerRows.OUT) {
            x.door(1, 3, 0);
        }
        return x;
    }

    private static void everyEventInEveryState() {
        int no = LockerRows.STATE;
        int[][] answers = {
            {LockerRows.OPEN, LockerRows.FORCED, no, LockerRows.OUT, no},
            {no, LockerRows.FORCED, no, no, no},
            {no, no, LockerRows.SHUT, no, no},
            {no, no, no, no, LockerRows.SHUT},
        };
        for (int state = 0; state < 4; state++) {
            for (int event = 0; event < 5; event++) {
                LockerRows x = withDoor(state);
                String call = "event " + event + " in state " + state;
                due.is(call, x.door(1, event, 7), answers[state][event]);
                due.is(call + " lets time pass", x.tick(6), LockerRows.OUTSIDE);
                int now = answers[state][event] == no ? state : answers[state][event];
                for (int next = 0; next < 5; next++) {
                    if (answers[now][next] != no) {
                        due.is("after " + call, x.door(1, next, 7), answers[now][next]);
                        break;
                    }
                }
            }
        }
    }

    private static void outOfOrderOnlyEmptyAndNotKept() {
        LockerRows x = Due.withBoxes(1, 1);
        x.tape(1);
        Due.store(x, 1, 1, 0);
        due.is("full", x.door(1, 3, 0), LockerRows.STATE);
        x.reserve(1, 10);
        due.is("kept", x.door(2, 3, 9), LockerRows.STATE);
        due.is("freed by the time of the call", x.door(2, 3, 10), LockerRows.OUT);
    }

    private static void keptBoxesAndFullOnesOpen() {
        LockerRows x = Due.withBoxes(1, 1);
        x.tape(1);
        Due.store(x, 1, 1, 0);
        x.reserve(1, 10);
        due.is("a carrier opens a full one", x.door(1, 0, 0), LockerRows.OPEN);
        due.is("what lies there lies there", x.code(1), 1);
        due.is("a full one is forced", x.door(1, 1, 0), LockerRows.FORCED);
        due.is("what lies there lies there still", x.code(1), 1);
        due.is("and is in it", x.item(1), 1);
        due.is("a full one is mended", x.door(1, 2, 0), LockerRows.SHUT);
        due.is("it can be typed", x.type(1, 0), 1);
        due.is("a carrier opens a kept one", x.door(2, 0, 0), LockerRows.OPEN);
        due.is("a kept one is forced", x.door(2, 1, 0), LockerRows.FORCED);
        x.tick(10);
        due.is("and freed", x.freed(0), 2);
    }

    private static void refusals() {
        LockerRows x = Due.withBoxes(1);
        x.tick(10);
        for (int box : new int[] {0, 2, -1, 61, Integer.MAX_VALUE, Integer.MIN_VALUE}) {
            due.is("door(" + box + ", 9, 0)", x.door(box, 9, 0), LockerRows.UNKNOWN);
        }
        for (int event : new int[] {-1, 5, Integer.MAX_VALUE, Integer.MIN_VALUE}) {
            due.is("door(1, " + event + ", 20)", x.door(1, event, 20), LockerRows.OUTSIDE);
        }
        for (long t : new long[] {9, -1, 2000000001L, Long.MAX_VALUE, Long.MIN_VALUE}) {
            due.is("door(1, 0, " + t + ")", x.door(1, 0, t), LockerRows.OUTSIDE);
            due.is("door(1, 2, " + t + ")", x.door(1, 2, t), LockerRows.OUTSIDE);
        }
        due.is("door(1, 0, 10)", x.door(1, 0, 10), LockerRows.OPEN);
    }

    public static void main(String[] args) {
        everyEventInEveryState();
        outOfOrderOnlyEmptyAndNotKept();
        keptBoxesAndFullOnesOpen();
        refusals();
        due.end();
    }
}
