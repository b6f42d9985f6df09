/** Promise 10: tick, and the term TIME with its alarms. */
public final class TickTest {
    private static final Due due = new Due("TickTest");

    private static void anOpeningIsToldOnce() {
        LockerRows x = Due.withBoxes(1, 1);
        x.door(1, 0, 0);
        x.door(2, 1, 1);
        due.is("tick(119)", x.tick(119), 0);
        due.is("tick(120)", x.tick(120), 1);
        due.is("tick(120) again", x.tick(120), 0);
        due.is("tick(121)", x.tick(121), 1);
        due.is("tick(2000)", x.tick(2000), 0);
        x.close(1, 2000);
        x.door(2, 2, 2000);
        x.door(1, 0, 2000);
        x.door(2, 0, 2000);
        due.is("new openings", x.tick(2120), 2);
    }

    private static void forcingBeginsAnew() {
        LockerRows x = Due.withBoxes(1);
        x.door(1, 0, 0);
        x.door(1, 1, 119);
        due.is("the old opening is over", x.tick(120), 0);
        due.is("tick(238)", x.tick(238), 0);
        due.is("tick(239)", x.tick(239), 1);

        LockerRows y = Due.withBoxes(1);
        y.door(1, 0, 0);
        due.is("told while open", y.tick(120), 1);
        y.door(1, 1, 130);
        due.is("tick(249)", y.tick(249), 0);
        due.is("told anew when forced", y.tick(250), 1);

        LockerRows z = Due.withBoxes(1);
        z.door(1, 0, 0);
        z.door(1, 1, 120);
        due.is("told by the forcing, before it begins anew", z.tick(239), 1);
        due.is("and then anew", z.tick(240), 1);
    }

    private static void callsBetweenTell() {
        LockerRows x = Due.withBoxes(1, 1, 1, 1, 1);
        for (int box = 1; box <= 5; box++) {
            x.door(box, 0, box);
        }
        x.close(1, 121);
        x.put(2, 1, 122);
        x.type(5, 123);
        x.door(4, 0, 124);
        due.is("close, put, type, door and tick tell", x.tick(125), 5);
        due.is("and the count begins anew", x.tick(125), 0);

        LockerRows y = Due.withBoxes(1);
        y.door(1, 0, 0);
        y.close(1, 119);
        due.is("shut in time", y.tick(1000), 0);
    }

    private static void anItemIsLateOnce() {
        LockerRows x = Due.withBoxes(1);
        x.tape(1);
        x.door(1, 0, 0);
        x.put(1, 1, 0);
        x.close(1, 100);
        due.is("not from the put on", x.tick(604800), 0);
        due.is("tick(604899)", x.tick(604899), 0);
        due.is("tick(604900)", x.tick(604900), 1);
        due.is("once", x.tick(1500000), 0);
        x.door(1, 0, 1500000);
        x.close(1, 1500000);
        due.is("it lies on, and is late already", x.tick(3000000), 0);
    }

    private static void lyingGoesOnBehindAnOpenDoor() {
        LockerRows x = Due.withBoxes(1);
        x.tape(1);
        Due.store(x, 1, 1, 0);
        x.door(1, 0, 500000);
        x.close(1, 500001);
        due.is("opening it does not begin anew", x.tick(604800), 1);

        LockerRows y = Due.withBoxes(1);
        y.tape(1);
        Due.store(y, 1, 1, 0);
        y.door(1, 1, 10);
        due.is("the opening and the item", y.tick(604800), 2);

        LockerRows z = Due.withBoxes(1);
        z.tape(1);
        z.door(1, 0, 0);
        z.put(1, 1, 0);
        due.is("an item that does not lie is not late", z.tick(700000), 1);
    }

    private static void refusals() {
        LockerRows x = Due.withBoxes(1);
        x.door(1, 0, 0);
        x.put(1, 1, 150);
        for (long t : new long[] {149, 0, -1, 2000000001L, Long.MAX_VALUE, Long.MIN_VALUE, 4294967446L}) {
            due.is("tick(" + t + ")", x.tick(t), LockerRows.OUTSIDE);
        }
        due.is("a refused tick takes no alarm", x.tick(150), 1);
        x.put(9, 1, 160);
        x.put(1, 0, 160);
        x.door(1, 9, 160);
        x.type(-1, 160);
        due.is("UNKNOWN and OUTSIDE let no time pass", x.tick(150), 0);
        due.is("the last time", x.tick(2000000000L), 0);
        due.is("the last time again", x.tick(2000000000L), 0);
    }

    public static void main(String[] args) {
        anOpeningIsToldOnce();
        forcingBeginsAnew();
        callsBetweenTell();
        anItemIsLateOnce();
        lyingGoesOnBehindAnOpenDoor();
        refusals();
        due.end();
    }
}
