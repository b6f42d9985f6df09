/** The edges of promise 12: boxes that are there, empty ones, and the second that makes an item late. */
public final class ItemEdgesTest {
    private static final Due due = new Due("ItemEdgesTest");
    private static final long WEEK = 604800L;

    /** "UNKNOWN": the first and the last box are known, the ones beside them are not. */
    private static void boxesUnknown() {
        for (int count : new int[] {1, 2, 59, 60}) {
            LockerRows x = Due.withEqualBoxes(count, 1);
            x.door(count, 0, 0);
            x.put(count, 9, 0);
            for (int box : Edges.outside(1, count)) {
                due.is(x, Call.item(box), LockerRows.UNKNOWN);
            }
            due.is("the last of " + count, x.item(count), 9);
            due.is("the first", x.item(1), count == 1 ? 9 : 0);
        }
    }

    /** "minus the item, if it is LATE": for the first item and the last, in the second that makes them late. */
    private static void lateOrNot() {
        for (int item : new int[] {1, 11, 12, 13, 14, 9999}) {
            LockerRows x = Due.withBoxes(1);
            x.tape(0);
            Due.store(x, 1, item, 0);
            x.tick(WEEK - 1);
            due.is("a second before", x.item(1), item);
            x.tick(WEEK);
            due.is("late", x.item(1), -item);
        }
    }

    /** Time passes by calls with a t that are not refused as UNKNOWN or OUTSIDE; item itself has none. */
    private static void lateByAPassingAlone() {
        LockerRows x = Due.withBoxes(1);
        x.tape(0);
        Due.store(x, 1, 5, 0);
        x.close(2, WEEK);
        x.close(1, Edges.LAST_TIME + 1);
        x.put(1, 0, WEEK);
        x.door(1, 5, WEEK);
        x.type(-1, WEEK);
        due.is("refused as UNKNOWN or OUTSIDE", x.item(1), 5);
        due.is("STATE", x.close(1, WEEK), LockerRows.STATE);
        due.is("refused as STATE", x.item(1), -5);
    }

    /** "0 when it is empty": at first, and after the item is taken or fetched, late or not. */
    private static void emptyAgain() {
        LockerRows x = Due.withBoxes(1);
        Due.tape(x, 4, 5);
        due.is("at first", x.item(1), 0);
        Due.store(x, 1, 5, 0);
        x.door(1, 0, WEEK);
        due.is("late", x.item(1), -5);
        x.take(1, 0);
        due.is("taken", x.item(1), 0);
        x.put(1, 5, WEEK);
        due.is("put in anew, it is not late", x.item(1), 5);
        x.close(1, WEEK);
        due.is("nor behind the door", x.item(1), 5);
        x.tick(WEEK + WEEK);
        due.is("late anew", x.item(1), -5);
        x.type(5, WEEK + WEEK);
        due.is("fetched", x.item(1), 0);
    }

    /** "that was put in": an item is in the box before it lies there, and is not late as long as it does not. */
    private static void inBeforeItLies() {
        LockerRows x = Due.withBoxes(1);
        x.door(1, 0, 0);
        x.put(1, 5, 0);
        x.tick(Edges.LAST_TIME);
        due.is("never closed, never late", x.item(1), 5);
    }

    public static void main(String[] args) {
        boxesUnknown();
        lateOrNot();
        lateByAPassingAlone();
        emptyAgain();
        inBeforeItLies();
        due.end();
    }
}
