/** The edges of promise 6: doors that are not open, and a tape that has no code. */
public final class CloseEdgesTest {
    private static final Due due = new Due("CloseEdgesTest");

    /** "UNKNOWN": the first and the last box are known, the ones beside them are not. */
    private static void boxesUnknown() {
        for (int count : new int[] {1, 2, 59, 60}) {
            LockerRows x = Due.withEqualBoxes(count, 1);
            for (int box : Edges.outside(1, count)) {
                due.is(x, Call.close(box, 5), LockerRows.UNKNOWN);
            }
            due.is("no time has passed", x.door(count, 0, 0), LockerRows.OPEN);
            due.is("the last of " + count, x.close(count, 0), -1);
            due.is("the first", x.close(1, 0), LockerRows.STATE);
        }
    }

    /** "STATE (it is not open)": in every state but one; the door stays as it was. */
    private static void doorsThatAreNotOpen() {
        int[] events = {-1, 0, 1, 3};
        int[] next = {0, 0, 2, 4};
        int[] nextAnswers = {LockerRows.OPEN, LockerRows.OPEN, LockerRows.SHUT, LockerRows.SHUT};
        for (int state = 0; state < 4; state++) {
            LockerRows x = Due.withBoxes(1);
            if (events[state] >= 0) {
                due.is(x, Call.door(1, events[state], 0), state);
            }
            due.is("close in state " + state, x.close(1, 0), state == 1 ? -1 : LockerRows.STATE);
            due.is("the door then", x.door(1, next[state], 0), nextAnswers[state]);
        }
    }

    /** "STATE" is ahead of "ROOM": an item wants a code, the tape has none, and the door is forced. */
    private static void stateAheadOfRoom() {
        LockerRows x = Due.withBoxes(1);
        x.door(1, 0, 0);
        x.put(1, 1, 0);
        due.is("open, no number", x.close(1, 0), LockerRows.ROOM);
        x.door(1, 1, 0);
        due.is("forced, no number", x.close(1, 0), LockerRows.STATE);
        x.door(1, 2, 0);
        due.is("shut, no number", x.close(1, 0), LockerRows.STATE);
    }

    /** "ROOM (a code is wanted, and the tape has none": an empty tape refuses only where a code is wanted. */
    private static void anEmptyTapeWithoutNeed() {
        LockerRows x = Due.withBoxes(1, 1);
        x.door(1, 0, 0);
        due.is("empty", x.close(1, 0), -1);
        x.tape(3);
        due.is("the only number", Due.store(x, 1, 1, 0), 3);
        x.door(1, 0, 0);
        due.is("an item that lies already", x.close(1, 0), -1);
        x.door(1, 0, 0);
        x.take(1, 0);
        due.is("taken out", x.close(1, 0), -1);
        due.is("a new one", Due.store(x, 2, 2, 0), LockerRows.ROOM);
        x.take(2, 0);
        due.is("the new one is taken out again", x.close(2, 0), -1);
    }

    /** "it stays open": and its opening goes on, so that it is told at its time. */
    private static void withoutACodeItStaysOpen() {
        LockerRows x = Due.withBoxes(1);
        x.door(1, 0, 10);
        x.put(1, 1, 10);
        due.is("at 129", x.close(1, 129), LockerRows.ROOM);
        due.is("open for 119 seconds", x.tick(129), 0);
        due.is("at 130", x.close(1, 130), LockerRows.ROOM);
        due.is("open for 120 seconds", x.tick(130), 1);
        due.is("no code", x.code(1), -1);
        due.is("a carrier can take it out", x.take(1, 0), 1);
    }

    /** "a code that is wanted is the first of them that is no code of an item that lies" */
    private static void anItemThatDoesNotLieHasNoCode() {
        LockerRows x = Due.withBoxes(1, 1);
        Due.tape(x, 4, 4);
        Due.store(x, 1, 1, 0);
        due.is("4 is in use", Due.store(x, 2, 2, 0), LockerRows.ROOM);
        x.door(1, 0, 0);
        due.is("an opened box keeps its code", x.close(2, 0), LockerRows.ROOM);
        x.door(1, 1, 0);
        due.is("a forced box keeps its code", x.close(2, 0), LockerRows.ROOM);
        x.take(1, 0);
        due.is("the item lies nowhere: its code is free", x.close(2, 0), 4);
    }

    /** "LIES there from the next closing on": from the second of the closing, not of the put or a later one. */
    private static void liesFromTheClosingOn() {
        LockerRows x = Due.withBoxes(1);
        x.tape(4);
        x.door(1, 0, 0);
        x.put(1, 1, 0);
        due.is("open", x.code(1), -1);
        x.close(1, 60);
        due.is("closed", x.code(1), 4);
        x.door(1, 0, 100);
        x.close(1, 101);
        due.is("604799 seconds", x.tick(604859), 0);
        due.is("604800 seconds", x.tick(604860), 1);
    }

    /** The alarm of the opening is told by the closing itself when it comes at 120 seconds. */
    private static void closedInTheLastSecond() {
        LockerRows early = Due.withBoxes(1);
        early.door(1, 0, 0);
        early.close(1, 119);
        due.is("closed after 119 seconds", early.tick(500), 0);
        LockerRows late = Due.withBoxes(1);
        late.door(1, 0, 0);
        late.close(1, 120);
        due.is("closed after 120 seconds", late.tick(500), 1);
    }

    public static void main(String[] args) {
        boxesUnknown();
        doorsThatAreNotOpen();
        stateAheadOfRoom();
        anEmptyTapeWithoutNeed();
        withoutACodeItStaysOpen();
        anItemThatDoesNotLieHasNoCode();
        liesFromTheClosingOn();
        closedInTheLastSecond();
        due.end();
    }
}
