/** Arguments at the edges of what the document names. */
final class Edges {
    // Besides the next ones and the ends of int: numbers whose lowest bits are those of one that there is.
    static final int[] NO_TRANSACTION = {-1, 8, 9, -8, 16, 32, 256, 65536,
        Integer.MAX_VALUE, Integer.MIN_VALUE, Integer.MIN_VALUE + 1};
    static final int[] NO_CELL = {-1, 32, 33, -32, 64, 256, 65536,
        Integer.MAX_VALUE, Integer.MIN_VALUE, Integer.MIN_VALUE + 1};
    static final int[] NO_WHAT_OF_COUNT = {-1, 4, 5, -4, 8, 256, 65536,
        Integer.MAX_VALUE, Integer.MIN_VALUE, Integer.MIN_VALUE + 1};
    static final int[] NO_WHAT_OF_ALL = {-1, 3, 4, -4, 8, 256, 65536,
        Integer.MAX_VALUE, Integer.MIN_VALUE, Integer.MIN_VALUE + 1};

    // Besides the ends of long: the ends of int and their neighbours, where a number cut to an int would show.
    static final long[] NUMBERS = {Long.MIN_VALUE, Long.MIN_VALUE + 1, Integer.MIN_VALUE - 1L, Integer.MIN_VALUE,
        -1, 0, 1, Integer.MAX_VALUE, Integer.MAX_VALUE + 1L, 1L << 32, Long.MAX_VALUE - 1, Long.MAX_VALUE};

    private Edges() {
    }
}
