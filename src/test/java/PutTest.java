/** Promise 5: put. */
public final class PutTest {
    private static final Due due = new Due("PutTest");

    private static void onlyIntoAnOpenEmptyBox() {
        LockerRows x = Due.withBoxes(1, 1, 1, 1);
        x.tape(3);
        due.is("shut", x.put(1, 1, 0), 0);
        x.door(1, 0, 0);
        due.is("open", x.put(1, 1, 0), 1);
        due.is("holds one", x.put(1, 2, 0), 0);
        due.is("the item is here", x.put(1, 1, 0), 0);
        x.door(2, 0, 0);
        due.is("the item is in a box, not lying", x.put(2, 1, 0), 0);
        x.close(1, 0);
        due.is("the item lies in a box", x.put(2, 1, 0), 0);
        x.door(3, 1, 0);
        due.is("forced", x.put(3, 2, 0), 0);
        x.door(4, 3, 0);
        due.is("out of order", x.put(4, 2, 0), 0);
        due.is("nothing was put", x.item(2), 0);
        due.is("another item", x.put(2, 9999, 0), 1);
        due.is("it is there", x.item(2), 9999);
        x.type(3, 0);
        due.is("an item that is out may be put again", x.put(1, 1, 0), 1);
    }

    private static void endsKeepingWithoutFreeing() {
        LockerRows x = Due.withBoxes(1);
        x.reserve(1, 50);
        x.door(1, 0, 10);
        due.is("into a kept box", x.put(1, 1, 10), 1);
        x.take(1, 0);
        x.close(1, 10);
        due.is("not kept any more", x.door(1, 3, 10), LockerRows.OUT);
        x.tick(60);
        due.is("it was not freed", x.freed(0), 0);
    }

    private static void inVainLeavesTheKeeping() {
        LockerRows x = Due.withBoxes(1);
        x.reserve(1, 50);
        due.is("shut", x.put(1, 1, 10), 0);
        due.is("still kept", x.door(1, 3, 10), LockerRows.STATE);
        x.door(1, 0, 10);
        due.is("freed by the time of the call, then put", x.put(1, 1, 50), 1);
        due.is("freed(0)", x.freed(0), 1);
    }

    private static void refusals() {
        LockerRows x = Due.withBoxes(1);
        x.door(1, 0, 10);
        for (int box : new int[] {0, 2, -1, 61, Integer.MAX_VALUE, Integer.MIN_VALUE}) {
            due.is("put(" + box + ", 0, 0)", x.put(box, 0, 0), LockerRows.UNKNOWN);
        }
        for (int item : new int[] {0, 10000, -1, Integer.MAX_VALUE, Integer.MIN_VALUE}) {
            due.is("put(1, " + item + ", 11)", x.put(1, item, 11), LockerRows.OUTSIDE);
        }
        due.is("put(1, 1, 9)", x.put(1, 1, 9), LockerRows.OUTSIDE);
        due.is("put(1, 1, 2000000001)", x.put(1, 1, 2000000001L), LockerRows.OUTSIDE);
        due.is("nothing is in", x.item(1), 0);
        due.is("put(1, 1, 10), no time has passed", x.put(1, 1, 10), 1);
        due.is("a put in vain", x.put(1, 1, 20), 0);
        due.is("lets time pass", x.tick(19), LockerRows.OUTSIDE);
    }

    public static void main(String[] args) {
        onlyIntoAnOpenEmptyBox();
        endsKeepingWithoutFreeing();
        inVainLeavesTheKeeping();
        refusals();
        due.end();
    }
}
