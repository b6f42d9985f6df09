/** Promise 2: box. */
public final class BoxTest {
    public static void main(String[] args) {
        Due due = new Due("BoxTest");
        LockerRows x = new LockerRows();
        for (int size : new int[] {0, -1, 6, Integer.MIN_VALUE, Integer.MAX_VALUE}) {
            due.is("box(" + size + ")", x.box(size), LockerRows.OUTSIDE);
        }
        for (int number = 1; number <= 60; number++) {
            due.is("box " + number, x.box(1 + number % 5), number);
        }
        due.is("box 61", x.box(1), LockerRows.ROOM);
        due.is("a wrong size without room", x.box(6), LockerRows.OUTSIDE);
        due.is("item(60)", x.item(60), 0);
        due.is("item(61)", x.item(61), LockerRows.UNKNOWN);
        due.end();
    }
}
