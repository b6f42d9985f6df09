import java.util.ArrayList;
import java.util.List;

/** A post house where something is under way in every box, so that whatever a call changes can be seen. */
final class House {
    static final long NOW = 700000L;
    static final int BOXES = 10;

    static final int UNUSED = 1;
    static final int KEPT = 2;
    static final int OPEN_AND_EMPTY = 3;
    static final int OPEN_WITH_A_NEW_ITEM = 4;
    static final int FORCED_WITH_ITEM_50 = 5;
    static final int OUT_OF_ORDER = 6;
    static final int SHUT_WITH_ITEM_70 = 7;
    static final int SHUT_WITH_A_LATE_ITEM = 8;
    static final int FORCED_WITH_A_NEW_ITEM = 9;
    static final int FREED = 10;

    /** The seconds around those in which an opening is told or the keeping ends, also when begun anew at NOW + 100. */
    private static final long[] LATER = {1, 19, 20, 69, 70, 99, 100, 109, 110, 119, 120, 121, 219, 220, 221};

    private House() {
    }

    /** At NOW: two wrong codes were typed, an alarm is not yet told by a tick, and 700, 31, 32 are on the tape. */
    static LockerRows busy() {
        LockerRows x = Due.withBoxes(1, 2, 4, 4, 5, 4, 5, 4, 4, 3);
        Due.tape(x, 800, 700, 500, 700, 31, 32);
        Due.store(x, SHUT_WITH_A_LATE_ITEM, 80, 0);
        Due.store(x, SHUT_WITH_ITEM_70, 70, 100000);
        Due.store(x, FORCED_WITH_ITEM_50, 50, 600000);
        x.tick(699000);
        x.reserve(3, 699950);
        x.reserve(2, NOW + 100);
        x.door(OUT_OF_ORDER, 3, 699000);
        x.door(OPEN_AND_EMPTY, 0, 699800);
        x.door(OPEN_WITH_A_NEW_ITEM, 0, 699900);
        x.put(OPEN_WITH_A_NEW_ITEM, 40, 699900);
        x.door(FORCED_WITH_A_NEW_ITEM, 0, 699910);
        x.put(FORCED_WITH_A_NEW_ITEM, 90, 699910);
        x.door(FORCED_WITH_A_NEW_ITEM, 1, 699950);
        x.door(FORCED_WITH_ITEM_50, 1, 699990);
        x.type(1, 699995);
        x.type(2, 699996);
        letPass(x, NOW);
        return x;
    }

    /** The same with a tape that has only a number that is in use. */
    static LockerRows withoutCodes() {
        LockerRows x = busy();
        x.door(UNUSED, 0, NOW);
        x.put(UNUSED, 10, NOW);
        x.close(UNUSED, NOW);
        x.put(OPEN_AND_EMPTY, 30, NOW);
        x.close(OPEN_AND_EMPTY, NOW);
        x.tape(31);
        return x;
    }

    static LockerRows withSixtyBoxes() {
        LockerRows x = busy();
        for (int n = BOXES; n < 60; n++) {
            x.box(1);
        }
        return x;
    }

    static LockerRows withAFullTape() {
        LockerRows x = busy();
        for (int n = 3; n < 200; n++) {
            x.tape(1000 + n);
        }
        return x;
    }

    /** Time passes and nothing else: put at a door that is out of order answers 0 and changes nothing. */
    static void letPass(LockerRows x, long t) {
        x.put(OUT_OF_ORDER, 9999, t);
    }

    /** What x answers to a run of calls from t on that shows all of its state. */
    static List<String> story(LockerRows x, long t) {
        List<Call> calls = new ArrayList<>();
        look(calls);
        calls.add(Call.tick(t - 1));
        calls.add(Call.tick(t));
        calls.add(Call.tape(33));
        calls.add(Call.type(3, t));
        calls.add(Call.type(800, t));
        for (long seconds : LATER) {
            calls.add(Call.tick(t + seconds));
            calls.add(Call.freed(1));
        }
        calls.add(Call.type(800, t + 299));
        calls.add(Call.type(800, t + 300));
        for (int size = 5; size >= 1; size--) {
            calls.add(Call.reserve(size, t + 1000));
        }
        for (int box = 1; box <= BOXES; box++) {
            calls.add(Call.close(box, t + 400));
            for (int event = 4; event >= 0; event--) {
                calls.add(Call.door(box, event, t + 400));
            }
        }
        calls.add(Call.tape(34));
        calls.add(Call.tick(704799));
        look(calls);
        calls.add(Call.tick(704800));
        look(calls);
        calls.add(Call.box(1));
        return answers(x, calls);
    }

    private static void look(List<Call> calls) {
        for (int box = 0; box <= BOXES + 1; box++) {
            calls.add(Call.item(box));
        }
        for (int item : new int[] {10, 30, 40, 50, 70, 80, 90}) {
            calls.add(Call.code(item));
        }
        for (int i = 0; i < 4; i++) {
            calls.add(Call.freed(i));
        }
    }

    private static List<String> answers(LockerRows x, List<Call> calls) {
        List<String> told = new ArrayList<>();
        for (Call call : calls) {
            told.add(call.name() + " answered " + call.on(x));
        }
        return told;
    }
}
