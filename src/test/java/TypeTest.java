/** Promise 7: type, and the term THE KEYPAD. */
public final class TypeTest {
    private static final Due due = new Due("TypeTest");

    private static void opensOnce() {
        LockerRows x = Due.withBoxes(1, 1);
        Due.tape(x, 0, 999999);
        Due.store(x, 1, 11, 0);
        Due.store(x, 2, 12, 0);
        due.is("type(999999)", x.type(999999, 5), 2);
        due.is("the item is out", x.item(2), 0);
        due.is("its code is none", x.code(12), -1);
        due.is("the other stays", x.code(11), 0);
        due.is("a second time", x.type(999999, 5), 0);
        due.is("the opening begins at 5", x.tick(124), 0);
        due.is("and is told", x.tick(125), 1);
        due.is("the door is open", x.close(2, 125), -1);
        due.is("type(0)", x.type(0, 125), 1);
    }

    private static void aBoxThatIsNotShutIsWrong() {
        LockerRows x = Due.withBoxes(1);
        x.tape(3);
        Due.store(x, 1, 1, 0);
        x.door(1, 0, 0);
        due.is("open", x.type(3, 0), 0);
        x.door(1, 1, 0);
        due.is("forced", x.type(3, 0), 0);
        due.is("the code stays", x.code(1), 3);
        due.is("the third wrong one", x.type(4, 0), 0);
        x.door(1, 2, 0);
        due.is("these were tries: the keypad waits", x.type(3, 299), -1);
        due.is("shut", x.type(3, 300), 1);
    }

    private static void threeWrongOnesInARow() {
        LockerRows x = Due.withBoxes(1, 1);
        Due.tape(x, 3, 4);
        Due.store(x, 1, 1, 0);
        Due.store(x, 2, 2, 0);
        due.is("wrong 1", x.type(9, 10), 0);
        due.is("wrong 2", x.type(9, 11), 0);
        due.is("right, ends the row", x.type(3, 12), 1);
        due.is("wrong 1 anew", x.type(9, 13), 0);
        due.is("wrong 2 anew", x.type(9, 14), 0);
        due.is("wrong 3", x.type(9, 15), 0);
        due.is("waits", x.type(4, 15), -1);
        due.is("waits, wrong", x.type(9, 314), -1);
        due.is("waits, wrong again", x.type(9, 314), -1);
        due.is("the wait is over; the row begins anew", x.type(9, 315), 0);
        due.is("wrong 2", x.type(9, 315), 0);
        due.is("no wait yet", x.type(4, 315), 2);
        due.is("wrong 1", x.type(9, 315), 0);
        due.is("wrong 2", x.type(9, 315), 0);
        due.is("wrong 3", x.type(9, 316), 0);
        due.is("waits again", x.type(9, 615), -1);
        due.is("over again", x.type(9, 616), 0);
    }

    private static void refusalsAreNoTries() {
        LockerRows x = Due.withBoxes(1);
        x.tape(3);
        Due.store(x, 1, 1, 10);
        for (int code : new int[] {-1, 1000000, Integer.MAX_VALUE, Integer.MIN_VALUE}) {
            due.is("type(" + code + ", 20)", x.type(code, 20), LockerRows.OUTSIDE);
        }
        for (long t : new long[] {9, -1, 2000000001L, Long.MAX_VALUE, Long.MIN_VALUE}) {
            due.is("type(3, " + t + ")", x.type(3, t), LockerRows.OUTSIDE);
        }
        due.is("type(3, 10)", x.type(3, 10), 1);
        x.type(3, 10);
        x.type(3, 10);
        x.type(3, 10);
        due.is("OUTSIDE before the wait", x.type(-1, 10), LockerRows.OUTSIDE);
        due.is("waits", x.type(3, 130), -1);
        due.is("time passes while the keypad waits", x.tick(129), LockerRows.OUTSIDE);
    }

    private static void anItemWithoutACodeHasNone() {
        LockerRows x = Due.withBoxes(1);
        due.is("no item", x.type(0, 0), 0);
        x.door(1, 0, 0);
        x.put(1, 1, 0);
        due.is("an item that does not lie", x.type(0, 0), 0);
    }

    public static void main(String[] args) {
        opensOnce();
        aBoxThatIsNotShutIsWrong();
        threeWrongOnesInARow();
        refusalsAreNoTries();
        anItemWithoutACodeHasNone();
        due.end();
    }
}
