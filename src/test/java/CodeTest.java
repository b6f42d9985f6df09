/** Promise 8: code. */
public final class CodeTest {
    public static void main(String[] args) {
        Due due = new Due("CodeTest");
        LockerRows x = Due.withBoxes(1, 1);
        Due.tape(x, 0, 999999, 5);
        for (int item : new int[] {0, 10000, -1, Integer.MAX_VALUE, Integer.MIN_VALUE}) {
            due.is("code(" + item + ")", x.code(item), LockerRows.OUTSIDE);
        }
        due.is("code of an item that is nowhere", x.code(1), -1);
        x.door(1, 0, 0);
        x.put(1, 1, 0);
        due.is("code of an item that does not lie yet", x.code(1), -1);
        x.close(1, 0);
        due.is("code(1)", x.code(1), 0);
        Due.store(x, 2, 9999, 0);
        due.is("code(9999)", x.code(9999), 999999);
        x.door(1, 0, 0);
        due.is("opened by a carrier", x.code(1), 0);
        x.door(1, 1, 0);
        due.is("forced", x.code(1), 0);
        x.door(1, 2, 0);
        due.is("mended", x.code(1), 0);
        x.tick(700000);
        due.is("late", x.code(1), 0);
        x.door(1, 0, 700000);
        x.take(1, 0);
        due.is("taken", x.code(1), -1);
        x.type(999999, 700000);
        due.is("typed", x.code(9999), -1);
        due.end();
    }
}
