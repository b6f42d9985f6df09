/** Promise 3: tape, and the term THE TAPE. */
public final class TapeTest {
    private static final Due due = new Due("TapeTest");

    private static void countsAndRefuses() {
        LockerRows x = new LockerRows();
        for (int v : new int[] {-1, 1000000, Integer.MIN_VALUE, Integer.MAX_VALUE}) {
            due.is("tape(" + v + ")", x.tape(v), LockerRows.OUTSIDE);
        }
        due.is("tape(0)", x.tape(0), 1);
        due.is("tape(999999)", x.tape(999999), 2);
        due.is("tape(0) again", x.tape(0), 3);
        for (int n = 4; n <= 200; n++) {
            due.is("tape number " + n, x.tape(n), n);
        }
        due.is("tape number 201", x.tape(1), LockerRows.ROOM);
        due.is("a wrong number without room", x.tape(-1), LockerRows.OUTSIDE);
        x.box(1);
        due.is("the first code", Due.store(x, 1, 1, 0), 0);
        due.is("a number more after one went", x.tape(77), 200);
        due.is("no room again", x.tape(78), LockerRows.ROOM);
    }

    private static void codesInUseAreSkippedAndGo() {
        LockerRows x = Due.withBoxes(1, 1, 1);
        Due.tape(x, 5, 5, 5, 6, 5, 7);
        due.is("first code", Due.store(x, 1, 1, 0), 5);
        due.is("second code, behind two in use", Due.store(x, 2, 2, 0), 6);
        due.is("two are left", x.tape(8), 3);
        due.is("type(5)", x.type(5, 0), 1);
        due.is("close(1)", x.close(1, 0), -1);
        due.is("a code that is none any more is given anew", Due.store(x, 3, 3, 0), 5);
        due.is("the numbers behind it stay", x.tape(9), 3);
    }

    private static void refusedClosingLeavesTheTape() {
        LockerRows x = Due.withBoxes(1, 1);
        Due.tape(x, 5, 5, 5);
        Due.store(x, 1, 1, 0);
        due.is("all on the tape are in use", Due.store(x, 2, 2, 0), LockerRows.ROOM);
        due.is("the tape is whole", x.tape(6), 3);
        due.is("close with a fitting number", x.close(2, 0), 6);
        due.is("all before it went", x.tape(7), 1);
    }

    public static void main(String[] args) {
        countsAndRefuses();
        codesInUseAreSkippedAndGo();
        refusedClosingLeavesTheTape();
        due.end();
    }
}
