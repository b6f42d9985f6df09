import java.util.ArrayList;
import java.util.List;
import java.util.Map;
import java.util.Random;
import java.util.TreeMap;

/**
 * Long runs of calls with numbers drawn from a fixed seed, compared with a plain model that keeps
 * what is in the boxes apart from the boxes; it shows, too, that no call throws.
 */
public final class RandomRunsTest {
    private static final int RUNS = 3000;
    private static final int CALLS = 512;

    private static final class Model {
        final List<Integer> sizes = new ArrayList<>();
        final Map<Integer, Integer> doors = new TreeMap<>();
        final Map<Integer, Long> untoldOpenings = new TreeMap<>();
        final Map<Integer, Long> kept = new TreeMap<>();
        final Map<Integer, Integer> itemOfBox = new TreeMap<>();
        final Map<Integer, Integer> codeOfItem = new TreeMap<>();
        final Map<Integer, Long> lateAt = new TreeMap<>();
        final List<Integer> late = new ArrayList<>();
        final List<Integer> tape = new ArrayList<>();
        final List<Integer> freed = new ArrayList<>();
        final List<Long> wrong = new ArrayList<>();
        long waitEnd = 0;
        long time = 0;
        int told = 0;

        boolean known(int box) {
            return box >= 1 && box <= sizes.size();
        }

        boolean badTime(long t) {
            return t < time || t > 2000000000L;
        }

        void pass(long t) {
            time = t;
            for (int box = 1; box <= sizes.size(); box++) {
                if (kept.containsKey(box) && kept.get(box) <= t) {
                    kept.remove(box);
                    freed.add(box);
                }
                if (untoldOpenings.containsKey(box) && untoldOpenings.get(box) + 120 <= t) {
                    untoldOpenings.remove(box);
                    told++;
                }
                Integer item = itemOfBox.get(box);
                if (item != null && lateAt.containsKey(item) && lateAt.get(item) <= t) {
                    lateAt.remove(item);
                    late.add(item);
                    told++;
                }
            }
        }

        void setDoor(int box, int state) {
            doors.put(box, state);
            untoldOpenings.remove(box);
            if (state == 1 || state == 2) {
                untoldOpenings.put(box, time);
            }
        }

        void empty(int box) {
            Integer item = itemOfBox.remove(box);
            codeOfItem.remove(item == null ? 0 : item);
            lateAt.remove(item == null ? 0 : item);
            late.remove(item);
        }

        int box(int size) {
            if (size < 1 || size > 5) return -12;
            if (sizes.size() == 60) return -14;
            sizes.add(size);
            doors.put(sizes.size(), 0);
            return sizes.size();
        }

        int tape(int v) {
            if (v < 0 || v > 999999) return -12;
            if (tape.size() == 200) return -14;
            tape.add(v);
            return tape.size();
        }

        boolean unused(int box) {
            return doors.get(box) == 0 && !itemOfBox.containsKey(box) && !kept.containsKey(box);
        }

        int reserve(int size, long until) {
            if (size < 1 || size > 5 || until <= time || until > 2000000000L) return -12;
            for (int s = size; s <= 5; s++) {
                for (int box = 1; box <= sizes.size(); box++) {
                    if (sizes.get(box - 1) == s && unused(box)) {
                        kept.put(box, until);
                        return box;
                    }
                }
            }
            return 0;
        }

        int put(int box, int item, long t) {
            if (!known(box)) return -11;
            if (item < 1 || item > 9999 || badTime(t)) return -12;
            pass(t);
            if (doors.get(box) != 1 || itemOfBox.containsKey(box) || itemOfBox.containsValue(item)) return 0;
            itemOfBox.put(box, item);
            kept.remove(box);
            return 1;
        }

        int close(int box, long t) {
            if (!known(box)) return -11;
            if (badTime(t)) return -12;
            pass(t);
            if (doors.get(box) != 1) return -13;
            Integer item = itemOfBox.get(box);
            int answer = -1;
            if (item != null && !codeOfItem.containsKey(item)) {
                int first = 0;
                while (first < tape.size() && codeOfItem.containsValue(tape.get(first))) first++;
                if (first == tape.size()) return -14;
                answer = tape.get(first);
                tape.subList(0, first + 1).clear();
                codeOfItem.put(item, answer);
                lateAt.put(item, t + 604800);
            }
            setDoor(box, 0);
            return answer;
        }

        int type(int code, long t) {
            if (code < 0 || code > 999999 || badTime(t)) return -12;
            pass(t);
            if (t < waitEnd) return -1;
            for (int box = 1; box <= sizes.size(); box++) {
                Integer item = itemOfBox.get(box);
                if (doors.get(box) == 0 && item != null && Integer.valueOf(code).equals(codeOfItem.get(item))) {
                    wrong.clear();
                    empty(box);
                    setDoor(box, 1);
                    return box;
                }
            }
            wrong.add(t);
            if (wrong.size() == 3) {
                waitEnd = wrong.get(2) + 300;
                wrong.clear();
            }
            return 0;
        }

        int code(int item) {
            if (item < 1 || item > 9999) return -12;
            return codeOfItem.getOrDefault(item, -1);
        }

        int door(int box, int event, long t) {
            if (!known(box)) return -11;
            if (event < 0 || event > 4 || badTime(t)) return -12;
            pass(t);
            int now = doors.get(box);
            int then = -13;
            if (event == 0 && now == 0) then = 1;
            if (event == 1 && (now == 0 || now == 1)) then = 2;
            if (event == 2 && now == 2) then = 0;
            if (event == 3 && unused(box)) then = 3;
            if (event == 4 && now == 3) then = 0;
            if (then >= 0) setDoor(box, then);
            return then;
        }

        int tick(long t) {
            if (badTime(t)) return -12;
            pass(t);
            int answer = told;
            told = 0;
            return answer;
        }

        int take(int box, int carrier) {
            if (!known(box)) return -11;
            if (carrier < 0 || carrier > 9) return -12;
            int door = doors.get(box);
            if ((door != 1 && door != 2) || !itemOfBox.containsKey(box)) return 0;
            int item = itemOfBox.get(box);
            empty(box);
            return item;
        }

        int item(int box) {
            if (!known(box)) return -11;
            int item = itemOfBox.getOrDefault(box, 0);
            return late.contains(item) ? -item : item;
        }

        int freed(int i) {
            return i >= 0 && i < freed.size() && i < 100 ? freed.get(i) : 0;
        }
    }

    private static final int[] ODD = {-1, 0, 5, 6, 10, 60, 61, 100, 200, 9999, 10000, 999999, 1000000,
        Integer.MAX_VALUE, Integer.MIN_VALUE};
    private static final long[] ODD_TIMES = {-1, 0, 2000000000L, 2000000001L, Long.MAX_VALUE, Long.MIN_VALUE};
    private static final int[] STEPS = {0, 0, 0, 1, 1, 2, 60, 119, 120, 121, 299, 300, 301, 5000, 604799, 604800};

    private final Random random;
    private final Due due;
    private final LockerRows x = new LockerRows();
    private final Model m = new Model();
    private final int mostBoxes;
    private final int mostNumbers;

    private RandomRunsTest(int seed, Due due) {
        this.random = new Random(seed);
        this.due = due;
        this.mostBoxes = seed % 10 == 0 ? 60 : 2 + random.nextInt(5);
        this.mostNumbers = 3 + random.nextInt(12);
    }

    private int number(int least, int most) {
        if (random.nextInt(60) == 0) return ODD[random.nextInt(ODD.length)];
        return least + random.nextInt(most - least + 1);
    }

    private long later() {
        if (random.nextInt(80) == 0 && m.time < 1900000000L) {
            long odd = ODD_TIMES[random.nextInt(ODD_TIMES.length)];
            return odd == 2000000000L && random.nextInt(4) != 0 ? m.time - 1 : odd;
        }
        return m.time + STEPS[random.nextInt(STEPS.length)];
    }

    private int boxNumber() {
        return number(1, Math.max(1, m.sizes.size()));
    }

    private void call(int seed, int at) {
        int a = boxNumber();
        int b = number(1, mostNumbers);
        long t = later();
        String where = "run " + seed + ", call " + at + ": ";
        switch (random.nextInt(17)) {
            case 0 -> {
                int size = number(1, 5);
                if (m.sizes.size() < mostBoxes || size < 1 || size > 5 || mostBoxes == 60) {
                    due.is(where + "box(" + size + ")", x.box(size), m.box(size));
                }
            }
            case 1, 2 -> due.is(where + "tape(" + b + ")", x.tape(b), m.tape(b));
            case 3 -> {
                int size = number(1, 5);
                due.is(where + "reserve(" + size + ", " + t + ")", x.reserve(size, t), m.reserve(size, t));
            }
            case 4, 5, 6 -> due.is(where + "put(" + a + ", " + b + ", " + t + ")", x.put(a, b, t), m.put(a, b, t));
            case 7, 8 -> due.is(where + "close(" + a + ", " + t + ")", x.close(a, t), m.close(a, t));
            case 9 -> due.is(where + "type(" + b + ", " + t + ")", x.type(b, t), m.type(b, t));
            case 10, 11 -> {
                int event = random.nextInt(3) == 0 ? number(0, 4) : 0;
                due.is(where + "door(" + a + ", " + event + ", " + t + ")", x.door(a, event, t), m.door(a, event, t));
            }
            case 12 -> due.is(where + "tick(" + t + ")", x.tick(t), m.tick(t));
            case 13 -> {
                int carrier = number(0, 9);
                due.is(where + "take(" + a + ", " + carrier + ")", x.take(a, carrier), m.take(a, carrier));
            }
            case 14 -> due.is(where + "item(" + a + ")", x.item(a), m.item(a));
            case 15 -> due.is(where + "code(" + b + ")", x.code(b), m.code(b));
            default -> {
                int i = number(0, m.freed.size());
                due.is(where + "freed(" + i + ")", x.freed(i), m.freed(i));
            }
        }
    }

    /** Fills the boxes first, so that most calls of a run meet some. */
    private void begin() {
        for (int n = 0; n < mostBoxes / 2 + 1; n++) {
            int size = 1 + random.nextInt(5);
            due.is("box(" + size + ")", x.box(size), m.box(size));
        }
    }

    public static void main(String[] args) {
        Due due = new Due("RandomRunsTest");
        for (int seed = 1; seed <= RUNS; seed++) {
            RandomRunsTest run = new RandomRunsTest(seed, due);
            run.begin();
            for (int at = 1; at <= CALLS - 60; at++) {
                run.call(seed, at);
            }
        }
        due.end();
    }
}
