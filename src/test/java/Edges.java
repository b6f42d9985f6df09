import java.util.stream.IntStream;
import java.util.stream.LongStream;

/** Numbers that the document does not allow: the nearest ones and some far outside. */
final class Edges {
    static final long LAST_TIME = 2000000000L;

    private Edges() {
    }

    /** Ints that are not least .. most, some of which would be when cut to 8, 16 or 24 bits. */
    static int[] outside(int least, int most) {
        return IntStream.of(least - 1, most + 1, -1, -most, least + 256, least + 65536, most + (1 << 24),
                Integer.MIN_VALUE, Integer.MIN_VALUE + 1, Integer.MIN_VALUE + most,
                Integer.MAX_VALUE - 1, Integer.MAX_VALUE)
            .filter(v -> v < least || v > most).distinct().toArray();
    }

    /** Longs that are not least .. 2000000000, some of which would be when cut to 32 bits. */
    static long[] timesOutside(long least) {
        return LongStream.of(least - 1, -1, -LAST_TIME, LAST_TIME + 1, LAST_TIME + 2,
                Integer.MIN_VALUE, Integer.MAX_VALUE, Integer.MAX_VALUE + 1L,
                least + (1L << 32), LAST_TIME + (1L << 32), least - (1L << 32), LAST_TIME - (1L << 32),
                Long.MIN_VALUE, Long.MIN_VALUE + 1, Long.MIN_VALUE + LAST_TIME,
                Long.MAX_VALUE - 1, Long.MAX_VALUE)
            .filter(t -> t < least || t > LAST_TIME).distinct().toArray();
    }
}
