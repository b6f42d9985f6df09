/** The edges of promise 13: the second of until, the order of the boxes, and the first 100. */
public final class FreedEdgesTest {
    private static final Due due = new Due("FreedEdgesTest");

    /** Keeps every box of x until a time and lets it pass to that time. */
    private static void keepAndFree(LockerRows x, int boxes, long until) {
        for (int n = 0; n < boxes; n++) {
            x.reserve(1, until);
        }
        x.tick(until);
    }

    /** "0 when there is none such": i below 0, behind the last one, and far outside. */
    private static void numbersOutside() {
        LockerRows none = Due.withBoxes(1);
        due.is("freed(0) of none", none.freed(0), 0);
        LockerRows x = Due.withBoxes(1, 1);
        keepAndFree(x, 2, 10);
        due.is("the first", x.freed(0), 1);
        due.is("the last", x.freed(1), 2);
        due.is("behind the last", x.freed(2), 0);
        for (int i : Edges.outside(0, 99)) {
            due.is(x, Call.freed(i), 0);
        }
        due.is(x, Call.freed(99), 0);
    }

    /** "it is not kept any more if until is t or less" */
    private static void theSecondOfUntil() {
        LockerRows x = Due.withBoxes(1);
        x.reserve(1, 10);
        x.tick(9);
        due.is("until is t + 1", x.freed(0), 0);
        due.is("kept", x.reserve(1, 20), 0);
        x.tick(10);
        due.is("until is t", x.freed(0), 1);
        due.is("not kept", x.reserve(1, 20), 1);
        x.tick(21);
        due.is("until is t - 1", x.freed(1), 1);
        x.reserve(1, Edges.LAST_TIME);
        x.tick(Edges.LAST_TIME - 1);
        due.is("a second before the last time", x.freed(2), 0);
        x.tick(Edges.LAST_TIME);
        due.is("the last time", x.freed(2), 1);
    }

    /** "for each box in order": boxes that are freed by one passing come by their numbers, not by until. */
    private static void inTheOrderOfTheBoxes() {
        LockerRows x = Due.withBoxes(1, 2, 3, 4, 5);
        for (int size = 1; size <= 5; size++) {
            due.is("keeping", x.reserve(size, 20 - size), size);
        }
        x.tick(20);
        for (int i = 0; i < 5; i++) {
            due.is("freed(" + i + ")", x.freed(i), i + 1);
        }
    }

    /** "(the first 100 are told)": the 100th is, the 101st is not, and it is free all the same. */
    private static void theHundredthIsTheLast() {
        LockerRows x = Due.withBoxes(1);
        for (int n = 1; n <= 99; n++) {
            keepAndFree(x, 1, n);
        }
        due.is("99 are told", x.freed(98), 1);
        due.is("no 100th yet", x.freed(99), 0);
        x.box(2);
        due.is("keeping", x.reserve(2, 100), 2);
        x.tick(100);
        due.is("the 100th", x.freed(99), 2);
        x.reserve(1, 101);
        due.is("kept", x.door(1, 3, 100), LockerRows.STATE);
        x.tick(101);
        due.is("the 101st", x.freed(100), 0);
        due.is("it was freed", x.door(1, 3, 101), LockerRows.OUT);
        due.is("the 100th stays", x.freed(99), 2);
        due.is("the first stays", x.freed(0), 1);
    }

    /** One passing may free more boxes than are still told. */
    private static void overTheHundredInOnePassing() {
        LockerRows x = Due.withEqualBoxes(60, 1);
        keepAndFree(x, 60, 10);
        due.is("60 are told", x.freed(59), 60);
        due.is("no 61st", x.freed(60), 0);
        keepAndFree(x, 60, 20);
        for (int i = 0; i < 100; i++) {
            due.is("freed(" + i + ")", x.freed(i), 1 + i % 60);
        }
        for (int i : Edges.outside(0, 99)) {
            due.is(x, Call.freed(i), 0);
        }
        keepAndFree(x, 60, 30);
        due.is("the last told stays", x.freed(99), 40);
        due.is("no more are told", x.freed(100), 0);
        due.is("all were freed", x.reserve(1, 40), 1);
    }

    /** A box is freed behind every door that it may have while it is kept. */
    private static void behindEveryDoor() {
        LockerRows x = Due.withBoxes(1, 1, 1);
        for (int box = 1; box <= 3; box++) {
            due.is("keeping", x.reserve(1, 10), box);
        }
        x.door(2, 0, 0);
        x.door(3, 1, 0);
        x.tick(10);
        due.is("shut", x.freed(0), 1);
        due.is("open", x.freed(1), 2);
        due.is("forced", x.freed(2), 3);
    }

    public static void main(String[] args) {
        numbersOutside();
        theSecondOfUntil();
        inTheOrderOfTheBoxes();
        theHundredthIsTheLast();
        overTheHundredInOnePassing();
        behindEveryDoor();
        due.end();
    }
}
