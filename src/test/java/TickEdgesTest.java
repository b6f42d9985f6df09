/** The edges of promise 10 and of the alarms: 120 seconds of an opening, 604800 of lying. */
public final class TickEdgesTest {
    private static final Due due = new Due("TickEdgesTest");
    private static final long WEEK = 604800L;

    /** What begins an opening, at a time that is chosen so that nothing else is told. */
    private interface Opening {
        void begin(LockerRows x, long t);
    }

    /** Looks at 119 and 120 seconds after an opening that begins at t, and that it is told once. */
    private static void toldAt120(String how, LockerRows x, long t, Opening opening) {
        x.tick(t);
        opening.begin(x, t);
        due.is(how + ": at once", x.tick(t), 0);
        due.is(how + ": 119 seconds", x.tick(t + 119), 0);
        due.is(how + ": 120 seconds", x.tick(t + 120), 1);
        due.is(how + ": 120 seconds again", x.tick(t + 120), 0);
        due.is(how + ": 121 seconds", x.tick(t + 121), 0);
        due.is(how + ": 240 seconds", x.tick(t + 240), 0);
    }

    /** "open or forced since 120 seconds or more": for every call that begins an opening. */
    private static void everyOpening() {
        toldAt120("a carrier", Due.withBoxes(1), 1000, (x, t) -> x.door(1, 0, t));
        toldAt120("forcing a shut one", Due.withBoxes(1), 1000, (x, t) -> x.door(1, 1, t));
        LockerRows open = Due.withBoxes(1);
        open.door(1, 0, 900);
        toldAt120("forcing an open one", open, 1000, (x, t) -> x.door(1, 1, t));
        LockerRows full = Due.withBoxes(1);
        full.tape(5);
        Due.store(full, 1, 1, 900);
        toldAt120("a code", full, 1000, (x, t) -> x.type(5, t));
        LockerRows closed = Due.withBoxes(1);
        closed.door(1, 0, 900);
        closed.close(1, 950);
        toldAt120("a carrier, anew", closed, 1000, (x, t) -> x.door(1, 0, t));
        LockerRows mended = Due.withBoxes(1);
        mended.door(1, 1, 900);
        mended.door(1, 2, 950);
        toldAt120("forcing, anew", mended, 1000, (x, t) -> x.door(1, 1, t));
        toldAt120("from the first second on", Due.withBoxes(1), 0, (x, t) -> x.door(1, 0, t));
        toldAt120("the last that can be told", Due.withBoxes(1), Edges.LAST_TIME - 240, (x, t) -> x.door(1, 0, t));
    }

    /** "forcing an open one begins anew": also one that was told, which is told a second time then. */
    private static void forcingATold() {
        LockerRows x = Due.withBoxes(1);
        x.door(1, 0, 0);
        due.is("the opening", x.tick(120), 1);
        x.door(1, 1, 120);
        due.is("119 seconds of the forcing", x.tick(239), 0);
        due.is("120 seconds of the forcing", x.tick(240), 1);
    }

    /** Putting and taking do not begin an opening anew. */
    private static void putAndTakeDoNotBegin() {
        LockerRows x = Due.withBoxes(1);
        x.door(1, 0, 0);
        x.put(1, 1, 60);
        x.take(1, 0);
        x.put(1, 1, 119);
        due.is("119 seconds", x.tick(119), 0);
        due.is("120 seconds", x.tick(120), 1);
        x.take(1, 0);
        x.put(1, 1, 121);
        due.is("it is told once", x.tick(500), 0);
    }

    /** An opening near the end of time is told at the last time, or never. */
    private static void openingsAtTheEndOfTime() {
        LockerRows told = Due.withBoxes(1);
        told.door(1, 0, Edges.LAST_TIME - 120);
        due.is("120 seconds at the last time", told.tick(Edges.LAST_TIME), 1);
        LockerRows untold = Due.withBoxes(1);
        untold.door(1, 0, Edges.LAST_TIME - 119);
        due.is("119 seconds at the last time", untold.tick(Edges.LAST_TIME), 0);
    }

    /** "lies since 604800 seconds or more, and is not LATE": at the first time and at the end of time. */
    private static void lateAtTheWeek() {
        for (long since : new long[] {0, 1, 1000, Edges.LAST_TIME - WEEK}) {
            LockerRows x = Due.withBoxes(1);
            x.tape(5);
            Due.store(x, 1, 1, since);
            due.is("604799 seconds", x.tick(since + WEEK - 1), 0);
            due.is("not late", x.item(1), 1);
            due.is("604800 seconds", x.tick(since + WEEK), 1);
            due.is("late", x.item(1), -1);
            due.is("once", x.tick(since + WEEK), 0);
        }
        LockerRows never = Due.withBoxes(1);
        never.tape(5);
        Due.store(never, 1, 1, Edges.LAST_TIME - WEEK + 1);
        due.is("604799 seconds at the last time", never.tick(Edges.LAST_TIME), 0);
        due.is("not late", never.item(1), 1);
    }

    /** What lies is late behind every door, and what is taken out a second before is not. */
    private static void lateOrOut() {
        LockerRows x = Due.withBoxes(1, 1, 1);
        Due.tape(x, 5, 6, 7);
        Due.store(x, 1, 1, 0);
        Due.store(x, 2, 2, 0);
        Due.store(x, 3, 3, 0);
        x.door(1, 0, WEEK - 1);
        x.door(2, 1, WEEK - 1);
        x.door(3, 0, WEEK - 1);
        x.take(3, 0);
        due.is("behind an open door and a forced one, and one was taken", x.tick(WEEK), 2);
        due.is("open", x.item(1), -1);
        due.is("forced", x.item(2), -2);
        due.is("taken", x.item(3), 0);
    }

    /** "told since the tick before (by calls in between, too)": a call of each kind tells just one alarm. */
    private static void everyCallWithATimeTells() {
        Call[] between = {Call.put(2, 1, 120), Call.close(2, 120), Call.type(9, 120), Call.door(2, 4, 120), Call.tick(120)};
        int[] answers = {0, LockerRows.STATE, 0, LockerRows.STATE, 1};
        for (int n = 0; n < between.length; n++) {
            LockerRows x = Due.withBoxes(1, 1);
            x.door(1, 0, 0);
            due.is(x, between[n], answers[n]);
            due.is("tick behind " + between[n].name(), x.tick(120), n == 4 ? 0 : 1);
            due.is("tick again", x.tick(120), 0);
        }
    }

    /** "OUTSIDE (t)": a refused tick tells nothing and forgets nothing. */
    private static void aRefusedTickForgetsNothing() {
        LockerRows x = Due.withBoxes(1, 1);
        x.door(1, 0, 0);
        x.door(2, 0, 1);
        x.put(1, 1, 120);
        for (long t : Edges.timesOutside(120)) {
            due.is(x, Call.tick(t), LockerRows.OUTSIDE);
        }
        due.is("the first alarm, at the same time", x.tick(120), 1);
        due.is("the second one", x.tick(121), 1);
    }

    /** As many alarms as there can be at once: 60 openings and 60 late items. */
    private static void allAlarmsAtOnce() {
        LockerRows x = Due.withEqualBoxes(60, 1);
        for (int box = 1; box <= 60; box++) {
            x.tape(box);
            Due.store(x, box, box, 0);
        }
        for (int box = 1; box <= 60; box++) {
            x.door(box, box % 2, WEEK - 120);
        }
        due.is("a second before", x.tick(WEEK - 1), 0);
        due.is("all", x.tick(WEEK), 120);
        due.is("none is left", x.tick(WEEK), 0);
    }

    public static void main(String[] args) {
        everyOpening();
        forcingATold();
        putAndTakeDoNotBegin();
        openingsAtTheEndOfTime();
        lateAtTheWeek();
        lateOrOut();
        everyCallWithATimeTells();
        aRefusedTickForgetsNothing();
        allAlarmsAtOnce();
        due.end();
    }
}
