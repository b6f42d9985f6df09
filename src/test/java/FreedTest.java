/** Promise 13: freed. */
public final class FreedTest {
    private static final Due due = new Due("FreedTest");

    private static void inTheOrderOfPassing() {
        LockerRows x = Due.withBoxes(1, 2, 3, 4);
        x.reserve(1, 30);
        x.reserve(2, 20);
        x.reserve(3, 10);
        x.reserve(4, 40);
        x.tick(9);
        due.is("none yet", x.freed(0), 0);
        x.tick(10);
        due.is("until is t", x.freed(0), 3);
        due.is("one only", x.freed(1), 0);
        x.tick(35);
        due.is("of one passing in the boxes' order", x.freed(1), 1);
        due.is("then the next box", x.freed(2), 2);
        due.is("no more", x.freed(3), 0);
        x.reserve(3, 36);
        x.door(1, 4, 36);
        due.is("by a call that is refused as STATE", x.freed(3), 3);
        x.close(9, 50);
        x.close(4, 2000000001L);
        due.is("not by UNKNOWN or OUTSIDE", x.freed(4), 0);
        x.type(1, 40);
        due.is("by a wrong code", x.freed(4), 4);
        x.tick(100);
        due.is("once each", x.freed(5), 0);
        for (int i : new int[] {-1, 100, Integer.MAX_VALUE, Integer.MIN_VALUE}) {
            due.is("freed(" + i + ")", x.freed(i), 0);
        }
    }

    private static void theFirstHundredAreTold() {
        LockerRows x = Due.withBoxes(1, 1, 1);
        for (int t = 1; t <= 34; t++) {
            for (int n = 0; n < 3; n++) {
                x.reserve(1, t);
            }
            x.tick(t);
        }
        for (int i = 0; i < 100; i++) {
            due.is("freed(" + i + ")", x.freed(i), 1 + i % 3);
        }
        due.is("freed(100)", x.freed(100), 0);
        due.is("freed(101)", x.freed(101), 0);
        due.is("freeing goes on untold", x.reserve(1, 40), 1);
    }

    public static void main(String[] args) {
        inTheOrderOfPassing();
        theFirstHundredAreTold();
        due.end();
    }
}
