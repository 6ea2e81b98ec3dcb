/** The numbers next to what is allowed, and far from it. */
final class Bad {
    static final int[] GATES = {-1, 5, Integer.MIN_VALUE, Integer.MAX_VALUE};
    static final int[] STRINGS = {-1, 2, Integer.MIN_VALUE, Integer.MAX_VALUE};
    static final int[] REACHES = {-1, 6, Integer.MIN_VALUE, Integer.MAX_VALUE};
    static final int[] NOTES = {-1, 12, Integer.MIN_VALUE, Integer.MAX_VALUE};
    static final int[] SUMS = {-1, 4096, Integer.MIN_VALUE, Integer.MAX_VALUE};
    /** With two strings a gate, each of them would be a place in a row of ten. */
    static final int[][] CROSSED = {{-1, 2}, {0, 3}, {5, -1}, {1, -1}, {Integer.MIN_VALUE, 1}};

    private Bad() {
    }
}
