/** Promise 6: close. */
public final class CloseTest {
    private static final Due due = new Due("CloseTest");

    private static void givesACodeOnce() {
        LockerRows x = Due.withBoxes(1);
        Due.tape(x, 999999, 0);
        x.door(1, 0, 0);
        due.is("empty", x.close(1, 0), -1);
        due.is("with a new item", Due.store(x, 1, 1, 0), 999999);
        x.door(1, 0, 0);
        due.is("with an item that lies already", x.close(1, 0), -1);
        due.is("its code stays", x.code(1), 999999);
        x.door(1, 0, 0);
        x.take(1, 0);
        x.put(1, 1, 0);
        due.is("taken out and put in anew", x.close(1, 0), 0);
    }

    private static void onlyAnOpenDoor() {
        LockerRows x = Due.withBoxes(1);
        due.is("shut", x.close(1, 5), LockerRows.STATE);
        due.is("STATE lets time pass", x.tick(4), LockerRows.OUTSIDE);
        x.door(1, 1, 5);
        due.is("forced", x.close(1, 5), LockerRows.STATE);
        x.door(1, 2, 5);
        x.door(1, 3, 5);
        due.is("out of order", x.close(1, 5), LockerRows.STATE);
        x.door(1, 4, 5);
        x.door(1, 0, 5);
        due.is("open", x.close(1, 5), -1);
        due.is("shut now", x.door(1, 0, 5), LockerRows.OPEN);
    }

    private static void withoutANumberItStaysOpen() {
        LockerRows x = Due.withBoxes(1);
        x.door(1, 0, 0);
        x.put(1, 7, 0);
        due.is("no number", x.close(1, 100), LockerRows.ROOM);
        due.is("ROOM lets time pass", x.tick(99), LockerRows.OUTSIDE);
        due.is("it does not lie", x.code(7), -1);
        due.is("it is in", x.item(1), 7);
        due.is("the opening goes on", x.tick(119), 0);
        due.is("and is told", x.tick(120), 1);
        x.tape(4);
        due.is("with a number", x.close(1, 130), 4);
    }

    private static void anItemShutInByMendingWaitsForAClosing() {
        LockerRows x = Due.withBoxes(1);
        x.tape(4);
        x.door(1, 0, 0);
        x.put(1, 7, 0);
        x.door(1, 1, 0);
        due.is("mended", x.door(1, 2, 0), LockerRows.SHUT);
        due.is("no code yet", x.code(7), -1);
        due.is("the item is in", x.item(1), 7);
        due.is("it does not lie, so it is never late", x.tick(604800), 0);
        x.door(1, 0, 604800);
        due.is("the next closing", x.close(1, 604800), 4);
        due.is("it lies from there on", x.tick(604800 + 604799), 0);
        due.is("late", x.tick(604800 + 604800), 1);
    }

    private static void refusals() {
        LockerRows x = Due.withBoxes(1);
        x.door(1, 0, 10);
        for (int box : new int[] {0, 2, -1, 61, Integer.MAX_VALUE, Integer.MIN_VALUE}) {
            due.is("close(" + box + ", 0)", x.close(box, 0), LockerRows.UNKNOWN);
        }
        for (long t : new long[] {9, -1, 2000000001L, Long.MAX_VALUE, Long.MIN_VALUE}) {
            due.is("close(1, " + t + ")", x.close(1, t), LockerRows.OUTSIDE);
        }
        due.is("close(1, 10)", x.close(1, 10), -1);
        due.is("OUTSIDE before STATE", x.close(1, 9), LockerRows.OUTSIDE);
    }

    public static void main(String[] args) {
        givesACodeOnce();
        onlyAnOpenDoor();
        withoutANumberItStaysOpen();
        anItemShutInByMendingWaitsForAClosing();
        refusals();
        due.end();
    }
}
