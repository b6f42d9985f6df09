import java.util.ArrayList;
import java.util.List;
import java.util.function.Supplier;

/**
 * The term REFUSALS, "A refused call changes nothing but the time": of two equal houses one gets
 * the refused call, and both must tell the same story from there on.
 */
public final class RefusedCallTest {
    private static final Due due = new Due("RefusedCallTest");
    private static final long NOW = House.NOW;

    /** Just so late that a keeping ends and openings are told by the passing. */
    private static final long LATER = NOW + 100;

    private static void sameStory(String name, LockerRows refused, LockerRows twin, long t) {
        List<String> got = House.story(refused, t);
        List<String> want = House.story(twin, t);
        for (int n = 0; n < want.size(); n++) {
            String what = "behind " + name + ": " + got.get(n) + ", without it " + want.get(n);
            due.is(what, got.get(n).equals(want.get(n)) ? 1 : 0, 1);
        }
    }

    /** "A call that is refused as UNKNOWN or OUTSIDE lets no time pass" */
    private static void changesNothing(Supplier<LockerRows> house, Call call, int answer) {
        LockerRows refused = house.get();
        due.is(refused, call, answer);
        sameStory(call.name(), refused, house.get(), NOW);
    }

    /** "other ones do": the twin's time passes by a call that does nothing else. */
    private static void changesTheTimeAlone(Supplier<LockerRows> house, Call call, int answer) {
        LockerRows refused = house.get();
        due.is(refused, call, answer);
        LockerRows twin = house.get();
        House.letPass(twin, LATER);
        sameStory(call.name(), refused, twin, LATER);
    }

    /** Calls that differ only in the number that makes them UNKNOWN or OUTSIDE. */
    private static void unknown() {
        for (int box : new int[] {0, House.BOXES + 1, Integer.MIN_VALUE, Integer.MAX_VALUE}) {
            List<Call> calls = new ArrayList<>(List.of(Call.put(box, 1, LATER), Call.close(box, LATER),
                Call.take(box, 0), Call.item(box)));
            for (int event = 0; event <= 4; event++) {
                calls.add(Call.door(box, event, LATER));
            }
            for (Call call : calls) {
                changesNothing(House::busy, call, LockerRows.UNKNOWN);
            }
        }
    }

    private static void outsideByANumber() {
        List<Call> calls = new ArrayList<>();
        for (int size : new int[] {0, 6, Integer.MIN_VALUE, Integer.MAX_VALUE}) {
            calls.add(Call.box(size));
            calls.add(Call.reserve(size, LATER));
        }
        for (int code : new int[] {-1, 1000000, Integer.MIN_VALUE, Integer.MAX_VALUE}) {
            calls.add(Call.tape(code));
            calls.add(Call.type(code, LATER));
        }
        for (int item : new int[] {0, 10000, Integer.MIN_VALUE, Integer.MAX_VALUE}) {
            calls.add(Call.put(House.OPEN_AND_EMPTY, item, LATER));
            calls.add(Call.code(item));
        }
        for (int other : new int[] {-1, 10, Integer.MIN_VALUE, Integer.MAX_VALUE}) {
            for (int box = 1; box <= House.BOXES; box++) {
                calls.add(Call.take(box, other));
                calls.add(Call.door(box, other, LATER));
            }
        }
        for (Call call : calls) {
            changesNothing(House::busy, call, LockerRows.OUTSIDE);
        }
    }

    private static void outsideByATime() {
        List<Call> calls = new ArrayList<>();
        for (long t : new long[] {NOW - 1, Edges.LAST_TIME + 1, Long.MIN_VALUE, Long.MAX_VALUE, LATER + (1L << 32)}) {
            calls.add(Call.reserve(1, t));
            calls.add(Call.put(House.OPEN_AND_EMPTY, 1, t));
            calls.add(Call.close(House.OPEN_WITH_A_NEW_ITEM, t));
            calls.add(Call.type(700, t));
            calls.add(Call.type(3, t));
            calls.add(Call.tick(t));
            for (int box = 1; box <= House.BOXES; box++) {
                for (int event = 0; event <= 4; event++) {
                    calls.add(Call.door(box, event, t));
                }
            }
        }
        calls.add(Call.reserve(1, NOW));
        for (Call call : calls) {
            changesNothing(House::busy, call, LockerRows.OUTSIDE);
        }
    }

    /** Every event that a door refuses, and closing doors that are not open. */
    private static void state() {
        int[][] refusedEvents = {
            {2, 4}, {2, 3, 4}, {0, 2, 3, 4}, {0, 2, 3, 4}, {0, 1, 3, 4},
            {0, 1, 2, 3}, {2, 3, 4}, {2, 3, 4}, {0, 1, 3, 4}, {2, 4},
        };
        for (int box = 1; box <= House.BOXES; box++) {
            for (int event : refusedEvents[box - 1]) {
                if (box != House.KEPT || event != 3) {
                    changesTheTimeAlone(House::busy, Call.door(box, event, LATER), LockerRows.STATE);
                }
            }
            if (box != House.OPEN_AND_EMPTY && box != House.OPEN_WITH_A_NEW_ITEM) {
                changesTheTimeAlone(House::busy, Call.close(box, LATER), LockerRows.STATE);
            }
        }
    }

    /** A keeping that ends later than the call refuses event 3, and goes on. */
    private static void stateOfAKeptBox() {
        Supplier<LockerRows> kept = () -> {
            LockerRows x = House.busy();
            x.reserve(3, LATER + 50);
            return x;
        };
        changesTheTimeAlone(kept, Call.door(House.FREED, 3, LATER), LockerRows.STATE);
        LockerRows x = kept.get();
        x.door(House.FREED, 3, LATER);
        x.tick(LATER + 49);
        due.is("a second before until", x.freed(2), 0);
        x.tick(LATER + 50);
        due.is("until", x.freed(2), House.FREED);
    }

    private static void room() {
        for (int size = 1; size <= 5; size++) {
            changesNothing(House::withSixtyBoxes, Call.box(size), LockerRows.ROOM);
        }
        changesNothing(House::withAFullTape, Call.tape(0), LockerRows.ROOM);
        changesNothing(House::withAFullTape, Call.tape(999999), LockerRows.ROOM);
        changesTheTimeAlone(House::withoutCodes, Call.close(House.OPEN_WITH_A_NEW_ITEM, LATER), LockerRows.ROOM);
    }

    /** "Else a call that does nothing answers as told": it lets time pass where it has a t, and no more. */
    private static void callsThatDoNothing() {
        for (int box = 1; box <= House.BOXES; box++) {
            int newItem = box == House.OPEN_AND_EMPTY ? 70 : 1;
            changesTheTimeAlone(House::busy, Call.put(box, newItem, LATER), 0);
        }
        for (int box : new int[] {1, 2, 3, 6, 7, 8, 10}) {
            changesNothing(House::busy, Call.take(box, 0), 0);
        }
        Supplier<LockerRows> allKept = () -> {
            LockerRows x = House.busy();
            x.reserve(1, NOW + 1);
            x.reserve(1, NOW + 1);
            return x;
        };
        changesNothing(allKept, Call.reserve(1, LATER), 0);
        changesNothing(House::busy, Call.reserve(5, LATER), 0);
        changesNothing(House::busy, Call.code(1), -1);
        changesNothing(House::busy, Call.freed(1), 0);
        Supplier<LockerRows> waits = () -> {
            LockerRows x = House.busy();
            x.type(3, NOW);
            return x;
        };
        changesTheTimeAlone(waits, Call.type(700, LATER), -1);
        changesTheTimeAlone(waits, Call.type(3, LATER), -1);
    }

    public static void main(String[] args) {
        unknown();
        outsideByANumber();
        outsideByATime();
        state();
        stateOfAKeptBox();
        room();
        callsThatDoNothing();
        due.end();
    }
}
