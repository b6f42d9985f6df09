/** Promise 11: take. */
public final class TakeTest {
    private static final Due due = new Due("TakeTest");

    private static void fromAnOpenOrForcedBox() {
        LockerRows x = Due.withBoxes(1);
        Due.tape(x, 1, 2, 3);
        due.is("empty and shut", x.take(1, 0), 0);
        Due.store(x, 1, 5, 0);
        due.is("it lies shut in", x.take(1, 0), 0);
        due.is("it is still there", x.item(1), 5);
        x.door(1, 0, 0);
        due.is("open", x.take(1, 0), 5);
        due.is("the box is empty", x.item(1), 0);
        due.is("the item lies nowhere", x.code(5), -1);
        due.is("nothing more", x.take(1, 9), 0);
        x.put(1, 6, 0);
        due.is("one that does not lie yet", x.take(1, 9), 6);
        x.put(1, 5, 0);
        due.is("its new code", x.close(1, 0), 2);
        x.door(1, 1, 0);
        due.is("forced", x.take(1, 9), 5);
        due.is("empty and forced", x.take(1, 9), 0);
        x.door(1, 2, 0);
        x.door(1, 3, 0);
        due.is("out of order", x.take(1, 9), 0);
        due.is("the old code is wrong", x.type(2, 0), 0);
    }

    private static void aLateItem() {
        LockerRows x = Due.withBoxes(1);
        Due.tape(x, 1, 2);
        Due.store(x, 1, 5, 0);
        x.door(1, 0, 604800);
        due.is("a late one is told as itself", x.take(1, 0), 5);
        x.put(1, 6, 604800);
        x.close(1, 604800);
        due.is("the next one is not late", x.item(1), 6);
    }

    private static void refusals() {
        LockerRows x = Due.withBoxes(1);
        x.door(1, 0, 0);
        x.put(1, 5, 0);
        for (int box : new int[] {0, 2, -1, 61, Integer.MAX_VALUE, Integer.MIN_VALUE}) {
            due.is("take(" + box + ", -1)", x.take(box, -1), LockerRows.UNKNOWN);
        }
        for (int carrier : new int[] {-1, 10, Integer.MAX_VALUE, Integer.MIN_VALUE}) {
            due.is("take(1, " + carrier + ")", x.take(1, carrier), LockerRows.OUTSIDE);
        }
        due.is("nothing was taken", x.take(1, 9), 5);
    }

    public static void main(String[] args) {
        fromAnOpenOrForcedBox();
        aLateItem();
        refusals();
        due.end();
    }
}
