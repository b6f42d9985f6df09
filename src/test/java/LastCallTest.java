/** "An object is used for at most 512 calls": the last of them is answered as the first ones are. */
public final class LastCallTest {
    private static final Due due = new Due("LastCallTest");
    private static final int CALLS = 512;

    /** An object that has had all calls but so many, most of them a box that opens and is closed again. */
    private static LockerRows withCallsLeft(int left) {
        LockerRows x = Due.withBoxes(1);
        int calls = 1;
        for (long t = 0; calls + 2 <= CALLS - left; t += 2) {
            due.is(x, Call.door(1, 0, t), LockerRows.OPEN);
            due.is(x, Call.close(1, t + 1), -1);
            calls += 2;
        }
        for (; calls < CALLS - left; calls++) {
            due.is(x, Call.item(1), 0);
        }
        return x;
    }

    private static void theLastCalls() {
        due.is(withCallsLeft(1), Call.box(5), 2);
        due.is(withCallsLeft(1), Call.tape(999999), 1);
        due.is(withCallsLeft(1), Call.reserve(1, Edges.LAST_TIME), 1);
        due.is(withCallsLeft(1), Call.put(1, 1, Edges.LAST_TIME), 0);
        due.is(withCallsLeft(1), Call.close(1, Edges.LAST_TIME), LockerRows.STATE);
        due.is(withCallsLeft(1), Call.type(0, Edges.LAST_TIME), 0);
        due.is(withCallsLeft(1), Call.code(1), -1);
        due.is(withCallsLeft(1), Call.door(1, 3, Edges.LAST_TIME), LockerRows.OUT);
        due.is(withCallsLeft(1), Call.tick(Edges.LAST_TIME), 0);
        due.is(withCallsLeft(1), Call.take(1, 9), 0);
        due.is(withCallsLeft(1), Call.item(1), 0);
        due.is(withCallsLeft(1), Call.freed(99), 0);
    }

    /** The longest run of wrong codes: every third one makes the keypad wait, to the last call. */
    private static void wrongCodesToTheEnd() {
        LockerRows x = new LockerRows();
        for (int call = 0; call < CALLS; call++) {
            long t = 300L * (call / 4);
            due.is("type " + call, x.type(7, t), call % 4 == 3 ? -1 : 0);
        }
    }

    /** The longest run of alarms without a tick. */
    private static void alarmsToTheEnd() {
        LockerRows x = Due.withBoxes(1);
        for (int n = 0; n < 255; n++) {
            x.door(1, 0, 120L * n);
            x.close(1, 120L * n + 120);
        }
        due.is("the tick as the last call", x.tick(120L * 255), 255);
    }

    public static void main(String[] args) {
        theLastCalls();
        wrongCodesToTheEnd();
        alarmsToTheEnd();
        due.end();
    }
}
