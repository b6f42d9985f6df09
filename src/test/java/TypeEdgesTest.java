/** The edges of promise 7 and of the term THE KEYPAD: codes 0 .. 999999, three in a row, 300 seconds. */
public final class TypeEdgesTest {
    private static final Due due = new Due("TypeEdgesTest");

    /** An object where the code 5 is right for box 1 and 6 for box 2, and its time is t. */
    private static LockerRows withCodes(long t) {
        LockerRows x = Due.withBoxes(1, 1);
        Due.tape(x, 5, 6);
        Due.store(x, 1, 1, t);
        Due.store(x, 2, 2, t);
        return x;
    }

    private static void typeWrong(LockerRows x, int times, long t) {
        for (int n = 1; n <= times; n++) {
            due.is("wrong code " + n + " at " + t, x.type(9, t), 0);
        }
    }

    /** "OUTSIDE (code not 0 .. 999999": the first and the last code are good, ones outside are no tries. */
    private static void codes() {
        LockerRows x = Due.withBoxes(1, 1);
        Due.tape(x, 0, 999999);
        Due.store(x, 1, 1, 0);
        Due.store(x, 2, 2, 0);
        for (int code : Edges.outside(0, 999999)) {
            due.is(x, Call.type(code, 5), LockerRows.OUTSIDE);
        }
        due.is("no time has passed, no try was counted", x.type(0, 0), 1);
        due.is("the last code", x.type(999999, 0), 2);
    }

    /** "three codes in a row that were wrong": two are not enough, the third is. */
    private static void twoAreNotEnough() {
        LockerRows two = withCodes(10);
        typeWrong(two, 2, 10);
        due.is("behind two", two.type(5, 10), 1);
        LockerRows three = withCodes(10);
        typeWrong(three, 3, 10);
        due.is("behind three", three.type(5, 10), -1);
    }

    /** "until 300 seconds after the third": 299 wait, 300 do not; the first and second do not count for it. */
    private static void threeHundredSecondsAfterTheThird() {
        LockerRows x = withCodes(0);
        typeWrong(x, 1, 0);
        typeWrong(x, 1, 100);
        typeWrong(x, 1, 200);
        due.is("300 after the first", x.type(5, 300), -1);
        due.is("300 after the second", x.type(5, 400), -1);
        due.is("299 after the third", x.type(5, 499), -1);
        due.is("300 after the third", x.type(5, 500), 1);
    }

    /** "the row begins anew then": behind the wait two wrong ones are not enough again. */
    private static void theRowBeginsAnew() {
        LockerRows x = withCodes(0);
        typeWrong(x, 3, 0);
        typeWrong(x, 2, 300);
        due.is("behind two more", x.type(5, 300), 1);
        typeWrong(x, 3, 300);
        due.is("behind three more", x.type(6, 599), -1);
        due.is("300 seconds later", x.type(6, 600), 2);
    }

    /** "-1 while the keypad waits (this is no try)": it neither lengthens the wait nor counts afterwards. */
    private static void waitingIsNoTry() {
        LockerRows x = withCodes(0);
        typeWrong(x, 3, 0);
        for (int n = 0; n < 5; n++) {
            due.is("wrong while it waits", x.type(9, 299), -1);
            due.is("right while it waits", x.type(5, 299), -1);
        }
        due.is("nothing was opened", x.item(1), 1);
        typeWrong(x, 2, 300);
        due.is("the wait was not longer", x.type(5, 300), 1);
    }

    /** "-1 while the keypad waits" comes behind OUTSIDE. */
    private static void outsideWhileItWaits() {
        LockerRows x = withCodes(10);
        typeWrong(x, 3, 10);
        due.is(x, Call.type(-1, 10), LockerRows.OUTSIDE);
        due.is(x, Call.type(1000000, 10), LockerRows.OUTSIDE);
        due.is(x, Call.type(5, 9), LockerRows.OUTSIDE);
        due.is(x, Call.type(5, Edges.LAST_TIME + 1), LockerRows.OUTSIDE);
        due.is("it waits still", x.type(5, 309), -1);
        due.is("no longer", x.type(5, 310), 1);
    }

    /** "A right one ends the row of wrong ones": behind none, one and two of them. */
    private static void aRightOneEndsTheRow() {
        for (int before = 0; before <= 2; before++) {
            LockerRows x = withCodes(0);
            typeWrong(x, before, 0);
            due.is("right behind " + before, x.type(5, 0), 1);
            typeWrong(x, 2, 0);
            due.is("right behind two more", x.type(6, 0), 2);
            typeWrong(x, 3, 0);
            due.is("it waits", x.type(9, 0), -1);
        }
    }

    /** "0 when it is wrong (no such code; the box not shut)": both are tries, in one row. */
    private static void aDoorThatIsNotShut() {
        LockerRows x = withCodes(0);
        x.door(1, 0, 0);
        x.door(2, 1, 0);
        due.is("open", x.type(5, 0), 0);
        due.is("forced", x.type(6, 0), 0);
        due.is("the items stay", x.item(1), 1);
        due.is("the items stay", x.item(2), 2);
        due.is("no such code", x.type(7, 0), 0);
        due.is("that was the third", x.type(7, 0), -1);
        x.close(1, 0);
        x.door(2, 2, 0);
        due.is("closed again", x.type(5, 300), 1);
        due.is("mended", x.type(6, 300), 2);
    }

    /** "the door is open now, the item is out, the code is none any more": the same code is wrong at once. */
    private static void aCodeOpensOnce() {
        LockerRows x = withCodes(0);
        due.is("once", x.type(5, 0), 1);
        due.is("open", x.type(5, 0), 0);
        due.is("closing an empty box", x.close(1, 0), -1);
        due.is("shut and empty", x.type(5, 0), 0);
        due.is("the other one ends the row", x.type(6, 0), 2);
        due.is("box 1 is not touched by it", x.door(1, 3, 0), LockerRows.OUT);
    }

    /** A refusal between wrong ones is no code that was typed: the row goes on over it. */
    private static void refusalsDoNotEndTheRow() {
        LockerRows x = withCodes(10);
        typeWrong(x, 2, 10);
        due.is(x, Call.type(-1, 10), LockerRows.OUTSIDE);
        due.is(x, Call.type(5, 9), LockerRows.OUTSIDE);
        typeWrong(x, 1, 10);
        due.is("it waits", x.type(5, 10), -1);
    }

    /** The end of the wait may lie at the last time, or behind it. */
    private static void atTheEndOfTime() {
        long third = Edges.LAST_TIME - 300;
        LockerRows justOver = withCodes(third);
        typeWrong(justOver, 3, third);
        due.is("a second before the last time", justOver.type(5, Edges.LAST_TIME - 1), -1);
        due.is("the last time", justOver.type(5, Edges.LAST_TIME), 1);

        LockerRows tooLate = withCodes(third + 1);
        typeWrong(tooLate, 3, third + 1);
        due.is("299 seconds at the last time", tooLate.type(5, Edges.LAST_TIME), -1);

        LockerRows last = withCodes(Edges.LAST_TIME);
        typeWrong(last, 3, Edges.LAST_TIME);
        due.is("no second is left", last.type(5, Edges.LAST_TIME), -1);
    }

    /** The item of the box with the highest number is found by its code, too. */
    private static void theLastBox() {
        LockerRows x = Due.withEqualBoxes(60, 1);
        for (int box = 1; box <= 60; box++) {
            x.tape(box);
            Due.store(x, box, box, 0);
        }
        due.is(x, Call.type(60, 0), 60);
        due.is(x, Call.type(1, 0), 1);
        due.is(x, Call.type(59, 0), 59);
    }

    public static void main(String[] args) {
        codes();
        twoAreNotEnough();
        threeHundredSecondsAfterTheThird();
        theRowBeginsAnew();
        waitingIsNoTry();
        outsideWhileItWaits();
        aRightOneEndsTheRow();
        aDoorThatIsNotShut();
        aCodeOpensOnce();
        refusalsDoNotEndTheRow();
        atTheEndOfTime();
        theLastBox();
        due.end();
    }
}
