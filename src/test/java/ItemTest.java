/** Promise 12: item. */
public final class ItemTest {
    public static void main(String[] args) {
        Due due = new Due("ItemTest");
        LockerRows x = Due.withBoxes(1, 1);
        Due.tape(x, 1, 2, 3);
        for (int box : new int[] {0, 3, -1, 61, Integer.MAX_VALUE, Integer.MIN_VALUE}) {
            due.is("item(" + box + ")", x.item(box), LockerRows.UNKNOWN);
        }
        due.is("empty", x.item(1), 0);
        x.door(1, 0, 0);
        x.put(1, 9999, 0);
        due.is("put in", x.item(1), 9999);
        due.is("the other box", x.item(2), 0);
        x.close(1, 0);
        Due.store(x, 2, 1, 1);
        due.is("lying", x.item(1), 9999);
        x.tick(604799);
        due.is("not late yet", x.item(1), 9999);
        x.tick(604800);
        due.is("late", x.item(1), -9999);
        due.is("the other is not", x.item(2), 1);
        x.door(2, 1, 604801);
        due.is("late by any call with a t", x.item(2), -1);
        x.door(1, 0, 604801);
        due.is("late behind an open door", x.item(1), -9999);
        x.close(1, 604801);
        due.is("late after the closing", x.item(1), -9999);
        due.is("type", x.type(1, 604801), 1);
        due.is("out", x.item(1), 0);
        x.put(1, 9999, 604801);
        due.is("not late any more", x.item(1), 9999);
        x.close(1, 604801);
        x.tick(604801 + 604799);
        due.is("it lies since the new closing", x.item(1), 9999);
        x.tick(604801 + 604800);
        due.is("late anew", x.item(1), -9999);
        due.end();
    }
}
