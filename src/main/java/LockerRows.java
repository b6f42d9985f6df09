/** Lockers of a post house, as ../shared/DOC.md promises them. */
public final class LockerRows {
    public static final int UNKNOWN = -11, OUTSIDE = -12, STATE = -13, ROOM = -14;
    public static final int SHUT = 0, OPEN = 1, FORCED = 2, OUT = 3;

    private static final int MOST_BOXES = 60;
    private static final int LARGEST_SIZE = 5;
    private static final int LAST_ITEM = 9999;
    private static final int LAST_CODE = 999999;
    private static final int LAST_CARRIER = 9;
    private static final int MOST_FREED_TOLD = 100;
    private static final int WRONG_TRIES_IN_A_ROW = 3;
    private static final long LAST_TIME = 2000000000L;
    private static final long KEYPAD_WAIT = 300L;

    /** Stands for 'no code' and 'the keypad waits', which the document both answers with -1. */
    private static final int NONE = -1;

    private final Box[] boxes = new Box[MOST_BOXES];
    private int boxCount = 0;
    private final Tape numbers = new Tape();
    private final int[] freedBoxes = new int[MOST_FREED_TOLD];
    private int freedCount = 0;
    private long time = 0L;
    private int alarms = 0;
    private int wrongTries = 0;
    private long keypadWaitsUntil = 0L;

    public LockerRows() {
    }

    public int box(int size) {
        if (!isSize(size)) {
            return OUTSIDE;
        }
        if (boxCount >= MOST_BOXES) {
            return ROOM;
        }
        boxes[boxCount] = new Box(size);
        boxCount++;
        return boxCount;
    }

    public int tape(int v) {
        if (!isCode(v)) {
            return OUTSIDE;
        }
        return numbers.append(v) ? numbers.length() : ROOM;
    }

    public int reserve(int size, long until) {
        if (!isSize(size) || until <= time || until > LAST_TIME) {
            return OUTSIDE;
        }
        int number = smallestUnused(size);
        Box found = boxAt(number);
        if (found == null) {
            return 0;
        }
        found.keptUntil = until;
        return number;
    }

    public int put(int box, int item, long t) {
        Box into = boxAt(box);
        if (into == null) {
            return UNKNOWN;
        }
        if (!isItem(item) || !isTime(t)) {
            return OUTSIDE;
        }
        passTo(t);
        if (into.door != OPEN || !into.isEmpty() || boxOfItem(item) != null) {
            return 0;
        }
        into.receive(item);
        return 1;
    }

    public int close(int box, long t) {
        Box closing = boxAt(box);
        if (closing == null) {
            return UNKNOWN;
        }
        if (!isTime(t)) {
            return OUTSIDE;
        }
        passTo(t);
        if (closing.door != OPEN) {
            return STATE;
        }
        if (!closing.wantsCode()) {
            closing.door = SHUT;
            return NONE;
        }
        int code = wantedCode();
        if (code == NONE) {
            return ROOM;
        }
        closing.layDown(code, t);
        closing.door = SHUT;
        return code;
    }

    public int type(int code, long t) {
        if (!isCode(code) || !isTime(t)) {
            return OUTSIDE;
        }
        passTo(t);
        if (t < keypadWaitsUntil) {
            return NONE;
        }
        int number = boxNumberOfCode(code);
        Box meant = boxAt(number);
        if (meant == null || meant.door != SHUT) {
            countWrongTry(t);
            return 0;
        }
        wrongTries = 0;
        meant.clear();
        meant.beginOpening(OPEN, t);
        return number;
    }

    public int code(int item) {
        if (!isItem(item)) {
            return OUTSIDE;
        }
        Box holder = boxOfItem(item);
        return holder == null ? NONE : holder.code;
    }

    public int door(int box, int event, long t) {
        Box meant = boxAt(box);
        if (meant == null) {
            return UNKNOWN;
        }
        if (!Box.isEvent(event) || !isTime(t)) {
            return OUTSIDE;
        }
        passTo(t);
        if (!meant.admits(event)) {
            return STATE;
        }
        meant.undergo(event, t);
        return meant.door;
    }

    public int tick(long t) {
        if (!isTime(t)) {
            return OUTSIDE;
        }
        passTo(t);
        int told = alarms;
        alarms = 0;
        return told;
    }

    public int take(int box, int carrier) {
        Box from = boxAt(box);
        if (from == null) {
            return UNKNOWN;
        }
        if (carrier < 0 || carrier > LAST_CARRIER) {
            return OUTSIDE;
        }
        if (!from.isOpenOrForced()) {
            return 0;
        }
        int taken = from.item;
        from.clear();
        return taken;
    }

    public int item(int box) {
        Box asked = boxAt(box);
        if (asked == null) {
            return UNKNOWN;
        }
        return asked.late ? -asked.item : asked.item;
    }

    public int freed(int i) {
        return i >= 0 && i < freedCount && i < MOST_FREED_TOLD ? freedBoxes[i] : 0;
    }

    private static boolean isSize(int size) {
        return size >= 1 && size <= LARGEST_SIZE;
    }

    private static boolean isItem(int item) {
        return item >= 1 && item <= LAST_ITEM;
    }

    private static boolean isCode(int code) {
        return code >= 0 && code <= LAST_CODE;
    }

    private boolean isTime(long t) {
        return t >= time && t <= LAST_TIME;
    }

    /** The box of a number, or null, so that every caller must look whether there is one. */
    private Box boxAt(int number) {
        return number >= 1 && number <= boxCount && number <= MOST_BOXES ? boxes[number - 1] : null;
    }

    private Box boxOfItem(int item) {
        for (int number = 1; number <= boxCount; number++) {
            Box each = boxAt(number);
            if (each != null && each.item == item) {
                return each;
            }
        }
        return null;
    }

    private int boxNumberOfCode(int code) {
        for (int number = 1; number <= boxCount; number++) {
            Box each = boxAt(number);
            if (each != null && each.lies() && each.code == code) {
                return number;
            }
        }
        return 0;
    }

    private int smallestUnused(int size) {
        int best = 0;
        int bestSize = LARGEST_SIZE + 1;
        for (int number = 1; number <= boxCount; number++) {
            Box each = boxAt(number);
            if (each != null && each.isUnused() && each.size >= size && each.size < bestSize) {
                best = number;
                bestSize = each.size;
            }
        }
        return best;
    }

    /** Leaves the tape whole when it has no fitting number, since the call is refused then. */
    private int wantedCode() {
        for (int at = 0; at < numbers.length(); at++) {
            int number = numbers.at(at);
            if (boxNumberOfCode(number) == 0) {
                numbers.dropFirst(at + 1);
                return number;
            }
        }
        return NONE;
    }

    private void countWrongTry(long t) {
        wrongTries++;
        if (wrongTries >= WRONG_TRIES_IN_A_ROW) {
            wrongTries = 0;
            keypadWaitsUntil = t + KEYPAD_WAIT;
        }
    }

    private void passTo(long t) {
        time = t;
        for (int number = 1; number <= boxCount; number++) {
            Box each = boxAt(number);
            if (each != null) {
                if (each.freeIfDue(t)) {
                    noteFreed(number);
                }
                alarms += each.tellAlarms(t);
            }
        }
    }

    private void noteFreed(int number) {
        if (freedCount < MOST_FREED_TOLD) {
            freedBoxes[freedCount] = number;
            freedCount++;
        }
    }

    /** One box with its door and what is in it. */
    private static final class Box {
        private static final int CARRIER_OPENS = 0;
        private static final int IS_FORCED = 1;
        private static final int IS_MENDED = 2;
        private static final int GOES_OUT_OF_ORDER = 3;
        private static final int COMES_BACK = 4;

        private static final long LONGEST_OPENING = 120L;
        private static final long LONGEST_LYING = 604800L;

        /** No box is kept until 0: a time that is kept until is above the time of the call. */
        private static final long NOT_KEPT = 0L;

        private final int size;
        private int door = SHUT;
        private long openSince = 0L;
        private boolean openingTold = false;
        private int item = 0;
        private int code = NONE;
        private long liesSince = 0L;
        private boolean late = false;
        private long keptUntil = NOT_KEPT;

        private Box(int size) {
            this.size = size;
        }

        private static boolean isEvent(int event) {
            return event >= CARRIER_OPENS && event <= COMES_BACK;
        }

        private boolean isEmpty() {
            return item == 0;
        }

        /** An item has a code exactly as long as it lies, so the code alone tells it. */
        private boolean lies() {
            return code != NONE;
        }

        private boolean wantsCode() {
            return !isEmpty() && !lies();
        }

        private boolean isOpenOrForced() {
            return door == OPEN || door == FORCED;
        }

        private boolean isUnused() {
            return door == SHUT && isEmpty() && keptUntil == NOT_KEPT;
        }

        private boolean admits(int event) {
            switch (event) {
                case CARRIER_OPENS:
                    return door == SHUT;
                case IS_FORCED:
                    return door == SHUT || door == OPEN;
                case IS_MENDED:
                    return door == FORCED;
                case GOES_OUT_OF_ORDER:
                    return isUnused();
                case COMES_BACK:
                    return door == OUT;
                default:
                    return false;
            }
        }

        private void undergo(int event, long t) {
            switch (event) {
                case CARRIER_OPENS:
                    beginOpening(OPEN, t);
                    break;
                case IS_FORCED:
                    beginOpening(FORCED, t);
                    break;
                case GOES_OUT_OF_ORDER:
                    door = OUT;
                    break;
                default:
                    // Mending is no closing: the document lets close alone give a code.
                    door = SHUT;
                    break;
            }
        }

        private void beginOpening(int state, long t) {
            door = state;
            openSince = t;
            openingTold = false;
        }

        private void receive(int newItem) {
            item = newItem;
            keptUntil = NOT_KEPT;
        }

        private void layDown(int newCode, long t) {
            code = newCode;
            liesSince = t;
        }

        private void clear() {
            item = 0;
            code = NONE;
            late = false;
        }

        private boolean freeIfDue(long t) {
            if (keptUntil == NOT_KEPT || keptUntil > t) {
                return false;
            }
            keptUntil = NOT_KEPT;
            return true;
        }

        private int tellAlarms(long t) {
            int count = 0;
            if (isOpenOrForced() && !openingTold && t - openSince >= LONGEST_OPENING) {
                openingTold = true;
                count++;
            }
            if (lies() && !late && t - liesSince >= LONGEST_LYING) {
                late = true;
                count++;
            }
            return count;
        }
    }

    /** The numbers that are still to become codes, the first one in front. */
    private static final class Tape {
        private static final int MOST_NUMBERS = 200;

        private final int[] row = new int[MOST_NUMBERS];
        private int count = 0;

        private int length() {
            return count;
        }

        private boolean append(int number) {
            if (count >= MOST_NUMBERS) {
                return false;
            }
            row[count] = number;
            count++;
            return true;
        }

        private int at(int index) {
            return index >= 0 && index < count ? row[index] : NONE;
        }

        private void dropFirst(int dropped) {
            if (dropped < 1 || dropped > count) {
                return;
            }
            System.arraycopy(row, dropped, row, 0, count - dropped);
            count -= dropped;
        }
    }
}
