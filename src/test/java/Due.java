/** Counts the answers of one test that are not as due. */
final class Due {
    private final String test;
    private int wrong = 0;
    private int looked = 0;

    Due(String test) {
        this.test = test;
    }

    void is(String call, long got, long want) {
        looked++;
        if (got != want) {
            wrong++;
            System.out.println(test + ": " + call + " answered " + got + ", due is " + want);
        }
    }

    void is(LockerRows x, Call call, long want) {
        is(call.name(), call.on(x), want);
    }

    /** Ends the test; a test that looked at nothing fails, too. */
    void end() {
        if (wrong != 0 || looked == 0) {
            System.out.println(test + ": " + wrong + " of " + looked + " answers are not as due");
            System.exit(1);
        }
    }

    /** A new object with boxes 1, 2, .. of these sizes. */
    static LockerRows withBoxes(int... sizes) {
        LockerRows x = new LockerRows();
        for (int size : sizes) {
            x.box(size);
        }
        return x;
    }

    /** A new object with so many boxes of one size. */
    static LockerRows withEqualBoxes(int count, int size) {
        LockerRows x = new LockerRows();
        for (int n = 0; n < count; n++) {
            x.box(size);
        }
        return x;
    }

    static void tape(LockerRows x, int... numbers) {
        for (int number : numbers) {
            x.tape(number);
        }
    }

    /** Opens a box, puts an item in and closes it, all at t: what close answers. */
    static int store(LockerRows x, int box, int item, long t) {
        x.door(box, 0, t);
        x.put(box, item, t);
        return x.close(box, t);
    }
}
