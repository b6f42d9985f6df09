/** The edges of promise 5: boxes that are there, items 1 .. 9999, and what answers 0. */
public final class PutEdgesTest {
    private static final Due due = new Due("PutEdgesTest");

    /** "UNKNOWN": the first and the last box are known, the ones beside them are not. */
    private static void boxesUnknown() {
        for (int count : new int[] {1, 2, 59, 60}) {
            LockerRows x = Due.withEqualBoxes(count, 1);
            x.door(1, 0, 0);
            x.door(count, 0, 0);
            for (int box : Edges.outside(1, count)) {
                due.is(x, Call.put(box, 1, 5), LockerRows.UNKNOWN);
            }
            due.is("no time has passed", x.put(1, 1, 0), 1);
            due.is("the last of " + count, x.put(count, 2, 0), count == 1 ? 0 : 1);
        }
    }

    /** "an item is not 1 .. 9999" */
    private static void items() {
        LockerRows x = Due.withBoxes(1, 1);
        x.door(1, 0, 0);
        x.door(2, 0, 0);
        for (int item : Edges.outside(1, 9999)) {
            due.is(x, Call.put(1, item, 5), LockerRows.OUTSIDE);
        }
        due.is("nothing is in", x.item(1), 0);
        due.is("no time has passed, and the first item is good", x.put(1, 1, 0), 1);
        due.is("the last item is good", x.put(2, 9999, 0), 1);
        due.is("the first is in", x.item(1), 1);
        due.is("the last is in", x.item(2), 9999);
    }

    /** "0 when the door is not open": in every state but one, and nothing is in then. */
    private static void doorsThatAreNotOpen() {
        int[] events = {-1, 0, 1, 3};
        int[] answers = {0, 1, 0, 0};
        for (int state = 0; state < 4; state++) {
            LockerRows x = Due.withBoxes(1);
            if (events[state] >= 0) {
                due.is(x, Call.door(1, events[state], 0), state);
            }
            due.is("put at a door in state " + state, x.put(1, 1, 0), answers[state]);
            due.is("the item then", x.item(1), answers[state]);
        }
    }

    /** "or the box holds one": one that was just put in, and one that lies. */
    private static void boxesThatHoldOne() {
        LockerRows x = Due.withBoxes(1);
        Due.tape(x, 4);
        x.door(1, 0, 0);
        due.is("into the empty one", x.put(1, 1, 0), 1);
        due.is("a second one", x.put(1, 2, 0), 0);
        x.close(1, 0);
        x.door(1, 0, 0);
        due.is("beside one that lies", x.put(1, 2, 0), 0);
        due.is("the one that lies stays", x.item(1), 1);
        due.is("its code stays", x.code(1), 4);
        x.take(1, 0);
        due.is("empty again", x.put(1, 2, 0), 1);
    }

    /** "or the item is in a box": in this one or in another, the first or the last. */
    private static void itemsThatAreInABox() {
        LockerRows x = Due.withEqualBoxes(60, 1);
        Due.tape(x, 4, 5);
        Due.store(x, 1, 11, 0);
        Due.store(x, 60, 12, 0);
        x.door(30, 0, 0);
        due.is("it lies in the first box", x.put(30, 11, 0), 0);
        due.is("it lies in the last box", x.put(30, 12, 0), 0);
        x.door(1, 1, 0);
        due.is("it lies in a forced box", x.put(30, 11, 0), 0);
        x.take(1, 0);
        due.is("it was taken", x.put(30, 11, 0), 1);
        x.type(5, 0);
        due.is("it was fetched, but this box holds one", x.put(30, 12, 0), 0);
        due.is("it was fetched, and this box is empty", x.put(60, 12, 0), 1);
    }

    /** "it is not kept any more if until is t or less": the second before, put ends the keeping instead. */
    private static void justBeforeTheKeepingEnds() {
        LockerRows before = Due.withBoxes(1);
        before.reserve(1, 50);
        before.door(1, 0, 0);
        due.is("a second before until", before.put(1, 1, 49), 1);
        before.tick(51);
        due.is("put is no freeing", before.freed(0), 0);

        LockerRows then = Due.withBoxes(1);
        then.reserve(1, 50);
        then.door(1, 0, 0);
        due.is("at until", then.put(1, 1, 50), 1);
        due.is("it was freed, and then put in", then.freed(0), 1);
    }

    /** A put that answers 0 leaves the keeping as it is. */
    private static void inVainTheBoxIsKept() {
        LockerRows x = Due.withBoxes(1, 1);
        x.reserve(1, 50);
        x.door(2, 0, 0);
        x.put(2, 7, 0);
        x.door(1, 0, 0);
        due.is("the item is in another box", x.put(1, 7, 10), 0);
        x.close(1, 10);
        due.is("kept still", x.reserve(1, 60), 0);
        x.tick(50);
        due.is("and freed in time", x.freed(0), 1);
    }

    /** "an item ... lying in one box at most": 60 boxes hold 60 items. */
    private static void allBoxesHoldOne() {
        LockerRows x = Due.withEqualBoxes(60, 1);
        for (int box = 1; box <= 60; box++) {
            x.door(box, 0, 0);
            due.is("item " + (9940 + box - 1), x.put(box, 9940 + box - 1, 0), 1);
        }
        for (int box = 1; box <= 60; box++) {
            due.is("box " + box, x.item(box), 9940 + box - 1);
            due.is("a second one", x.put(box, 1, 0), 0);
        }
    }

    public static void main(String[] args) {
        boxesUnknown();
        items();
        doorsThatAreNotOpen();
        boxesThatHoldOne();
        itemsThatAreInABox();
        justBeforeTheKeepingEnds();
        inVainTheBoxIsKept();
        allBoxesHoldOne();
        due.end();
    }
}
