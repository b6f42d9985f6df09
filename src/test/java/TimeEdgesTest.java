import java.util.List;
import java.util.function.LongFunction;

/** The edges of the term TIME: t is not below the time, and not above 2000000000. */
public final class TimeEdgesTest {
    private static final Due due = new Due("TimeEdgesTest");
    private static final long[] TIMES = {0, 1, 1000, Edges.LAST_TIME - 1, Edges.LAST_TIME};

    /** Every call with a t, on an object with one box that is shut. */
    private static final List<LongFunction<Call>> WITH_A_TIME = List.of(
        t -> Call.put(1, 1, t), t -> Call.close(1, t), t -> Call.type(5, t), t -> Call.door(1, 4, t), Call::tick);
    private static final int[] WHEN_GOOD = {0, LockerRows.STATE, 0, LockerRows.STATE, 0};

    private static LockerRows at(long now) {
        LockerRows x = Due.withBoxes(1);
        x.tick(now);
        return x;
    }

    /** "t is not below it, and not above 2000000000, else OUTSIDE" */
    private static void timesOutside() {
        for (int n = 0; n < WHEN_GOOD.length; n++) {
            for (long now : TIMES) {
                LockerRows x = at(now);
                for (long t : Edges.timesOutside(now)) {
                    due.is(x, WITH_A_TIME.get(n).apply(t), LockerRows.OUTSIDE);
                }
                due.is("the time has stayed", x.tick(now), 0);
            }
        }
    }

    /** The same time again is good, and so is the last one. */
    private static void theSameAndTheLast() {
        for (int n = 0; n < WHEN_GOOD.length; n++) {
            for (long now : TIMES) {
                LockerRows x = at(now);
                due.is(x, WITH_A_TIME.get(n).apply(now), WHEN_GOOD[n]);
                due.is(x, WITH_A_TIME.get(n).apply(Edges.LAST_TIME), WHEN_GOOD[n]);
            }
        }
    }

    /** "each call with a t sets it": the second before is OUTSIDE then, also behind STATE and 0. */
    private static void everyCallSetsTheTime() {
        for (int n = 0; n < WHEN_GOOD.length; n++) {
            for (long now : new long[] {1, 1000, Edges.LAST_TIME}) {
                LockerRows x = Due.withBoxes(1);
                due.is(x, WITH_A_TIME.get(n).apply(now), WHEN_GOOD[n]);
                due.is(x, Call.tick(now - 1), LockerRows.OUTSIDE);
                due.is(x, Call.reserve(1, now), LockerRows.OUTSIDE);
                due.is(x, Call.tick(now), 0);
            }
        }
    }

    /** "before all else that it does it PASSES to t": the call meets what the passing has made. */
    private static void passesBeforeAllElse() {
        LockerRows freed = Due.withBoxes(1);
        freed.reserve(1, 10);
        due.is("kept until 10, at 10", freed.door(1, 3, 10), LockerRows.OUT);
        LockerRows closed = Due.withBoxes(1);
        closed.door(1, 0, 0);
        closed.close(1, 120);
        due.is("told before it is closed", closed.tick(120), 1);
        LockerRows fetched = Due.withBoxes(1);
        fetched.tape(5);
        Due.store(fetched, 1, 1, 0);
        due.is("fetched", fetched.type(5, 604800), 1);
        due.is("late before it is fetched", fetched.tick(604800), 1);
        LockerRows forced = Due.withBoxes(1);
        forced.door(1, 0, 0);
        forced.door(1, 1, 120);
        due.is("told before it is forced", forced.tick(120), 1);
    }

    /** One passing over all of time does all that is due. */
    private static void allOfTimeAtOnce() {
        LockerRows x = Due.withBoxes(1, 1, 1);
        x.tape(5);
        Due.store(x, 1, 1, 0);
        x.door(2, 0, 0);
        x.reserve(1, 1);
        due.is("an opening and a late item", x.tick(Edges.LAST_TIME), 2);
        due.is("late", x.item(1), -1);
        due.is("freed", x.freed(0), 3);
    }

    public static void main(String[] args) {
        timesOutside();
        theSameAndTheLast();
        everyCallSetsTheTime();
        passesBeforeAllElse();
        allOfTimeAtOnce();
        due.end();
    }
}
