/** The busy house is as its names say: else the tests that use it would show nothing. */
public final class HouseTest {
    private static final Due due = new Due("HouseTest");

    private static void boxesAreAsNamed() {
        LockerRows x = House.busy();
        int[] items = {0, 0, 0, 40, 50, 0, 70, -80, 90, 0};
        for (int box = 1; box <= House.BOXES; box++) {
            due.is(x, Call.item(box), items[box - 1]);
        }
        int[] codesOf = {40, 50, 70, 80, 90};
        int[] codes = {-1, 500, 700, 800, -1};
        for (int n = 0; n < codesOf.length; n++) {
            due.is(x, Call.code(codesOf[n]), codes[n]);
        }
        due.is(x, Call.freed(0), House.FREED);
        due.is(x, Call.freed(1), 0);
        due.is(x, Call.tape(33), 4);
        due.is("the time", x.tick(House.NOW - 1), LockerRows.OUTSIDE);
        due.is("an alarm is waiting", x.tick(House.NOW), 1);
        due.is("the third wrong code", x.type(3, House.NOW), 0);
        due.is("the keypad waits", x.type(800, House.NOW), -1);
    }

    private static void doorsAreAsNamed() {
        int no = LockerRows.STATE;
        int[][] answers = {
            {LockerRows.OPEN, LockerRows.FORCED, no, LockerRows.OUT, no},
            {LockerRows.OPEN, LockerRows.FORCED, no, no, no},
            {no, LockerRows.FORCED, no, no, no},
            {no, LockerRows.FORCED, no, no, no},
            {no, no, LockerRows.SHUT, no, no},
            {no, no, no, no, LockerRows.SHUT},
            {LockerRows.OPEN, LockerRows.FORCED, no, no, no},
            {LockerRows.OPEN, LockerRows.FORCED, no, no, no},
            {no, no, LockerRows.SHUT, no, no},
            {LockerRows.OPEN, LockerRows.FORCED, no, LockerRows.OUT, no},
        };
        for (int box = 1; box <= House.BOXES; box++) {
            for (int event = 0; event <= 4; event++) {
                due.is(House.busy(), Call.door(box, event, House.NOW), answers[box - 1][event]);
            }
        }
    }

    private static void theFullOnesAreFull() {
        due.is("60 boxes", House.withSixtyBoxes().item(60), 0);
        due.is("no room for a box", House.withSixtyBoxes().box(1), LockerRows.ROOM);
        due.is("no room on the tape", House.withAFullTape().tape(1), LockerRows.ROOM);
        LockerRows x = House.withoutCodes();
        due.is("no code on the tape", x.close(House.OPEN_WITH_A_NEW_ITEM, House.NOW), LockerRows.ROOM);
        due.is("but one number", x.tape(99), 2);
        due.is("letting pass lets pass", passed().tick(House.NOW + 4), LockerRows.OUTSIDE);
        due.is("and no more", passed().tick(House.NOW + 5), 1);
    }

    private static LockerRows passed() {
        LockerRows x = House.busy();
        House.letPass(x, House.NOW + 5);
        return x;
    }

    public static void main(String[] args) {
        boxesAreAsNamed();
        doorsAreAsNamed();
        theFullOnesAreFull();
        due.end();
    }
}
