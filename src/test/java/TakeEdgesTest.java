/** The edges of promise 11: carriers 0 .. 9, boxes that are there, and doors that are not open. */
public final class TakeEdgesTest {
    private static final Due due = new Due("TakeEdgesTest");

    /** "UNKNOWN": the first and the last box are known, the ones beside them are not. */
    private static void boxesUnknown() {
        for (int count : new int[] {1, 2, 59, 60}) {
            LockerRows x = Due.withEqualBoxes(count, 1);
            x.door(count, 0, 0);
            x.put(count, 7, 0);
            for (int box : Edges.outside(1, count)) {
                due.is(x, Call.take(box, 0), LockerRows.UNKNOWN);
            }
            due.is("the last of " + count, x.take(count, 0), 7);
            due.is("the first", x.take(1, 0), 0);
        }
    }

    /** "A carrier (0 .. 9)", "OUTSIDE (a carrier)": and a refused one takes nothing. */
    private static void carriers() {
        for (int carrier = 0; carrier <= 9; carrier++) {
            LockerRows x = Due.withBoxes(1);
            x.door(1, 0, 0);
            x.put(1, 7, 0);
            for (int wrong : Edges.outside(0, 9)) {
                due.is(x, Call.take(1, wrong), LockerRows.OUTSIDE);
            }
            due.is("the item is in still", x.item(1), 7);
            due.is(x, Call.take(1, carrier), 7);
            due.is("and out now", x.item(1), 0);
        }
    }

    /** "whose door is open or forced", "0 when there is none, or it lies shut in" */
    private static void everyDoor() {
        LockerRows x = Due.withBoxes(1);
        Due.tape(x, 4, 5);
        due.is("shut, empty", x.take(1, 0), 0);
        x.door(1, 3, 0);
        due.is("out of order, empty", x.take(1, 0), 0);
        x.door(1, 4, 0);
        Due.store(x, 1, 7, 0);
        due.is("shut, full", x.take(1, 0), 0);
        due.is("it has its code still", x.code(7), 4);
        x.door(1, 0, 0);
        due.is("open, full", x.take(1, 0), 7);
        due.is("open, empty", x.take(1, 0), 0);
        x.put(1, 7, 0);
        x.close(1, 0);
        x.door(1, 1, 0);
        due.is("forced, full", x.take(1, 0), 7);
        due.is("forced, empty", x.take(1, 0), 0);
    }

    /** An item that was shut in by mending, without a code, is shut in all the same. */
    private static void shutInByMending() {
        LockerRows x = Due.withBoxes(1);
        x.door(1, 0, 0);
        x.put(1, 7, 0);
        x.door(1, 1, 0);
        x.door(1, 2, 0);
        due.is("shut", x.take(1, 0), 0);
        due.is("it is in", x.item(1), 7);
        x.door(1, 0, 0);
        due.is("open", x.take(1, 0), 7);
    }

    /** "OUTSIDE" is answered also where nothing could be taken. */
    private static void outsideWhereNothingIs() {
        LockerRows x = Due.withBoxes(1);
        for (int carrier : Edges.outside(0, 9)) {
            due.is(x, Call.take(1, carrier), LockerRows.OUTSIDE);
            due.is(x, Call.take(2, carrier), LockerRows.UNKNOWN);
        }
    }

    /** "the item, which lies nowhere then": its code opens nothing, and is free for another item. */
    private static void liesNowhereThen() {
        LockerRows x = Due.withBoxes(1, 1);
        Due.tape(x, 4, 4);
        Due.store(x, 1, 9999, 0);
        x.door(1, 0, 0);
        due.is("the last item", x.take(1, 9), 9999);
        due.is("closing the empty box", x.close(1, 0), -1);
        due.is("its code", x.type(4, 0), 0);
        due.is("it is never late", x.tick(604800), 0);
        due.is("its code for another item", Due.store(x, 2, 1, 604800), 4);
    }

    /** take has no t: no time passes by it, so a door and an item stay as they were told. */
    private static void noTimePasses() {
        LockerRows x = Due.withBoxes(1, 1);
        x.tick(50);
        x.reserve(1, 51);
        x.take(1, 0);
        x.take(2, 0);
        due.is("nothing is freed", x.freed(0), 0);
        due.is("the time is 50 still", x.tick(50), 0);
    }

    public static void main(String[] args) {
        boxesUnknown();
        carriers();
        everyDoor();
        shutInByMending();
        outsideWhereNothingIs();
        liesNowhereThen();
        noTimePasses();
        due.end();
    }
}
