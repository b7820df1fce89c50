/** Numbers that are out of bounds: just beyond them, far beyond, and such that wrap around when they are multiplied. */
final class Numbers {
    static final int[] NO_VALUES = {
        -1, -63, -64, Integer.MIN_VALUE, 64, 65, 71, 72, 128, 4096, 1 << 26, 1 << 30, Integer.MAX_VALUE};
    static final int[] NO_TERMS = {
        -1, -64, Integer.MIN_VALUE, 72, 73, 128, 4096, 1 << 26, 1 << 30, Integer.MAX_VALUE};
    static final int[] NOT_ZERO = {-1, Integer.MIN_VALUE, 1, 63, 64, 71, 72, 4096, Integer.MAX_VALUE};

    private Numbers() {
    }

    /** No relations of an object that has so many, nor rules of one that has so many. */
    static int[] none(int count) {
        return new int[] {-1, -2, Integer.MIN_VALUE, count, count + 1, 64, 16384, 32768, Integer.MAX_VALUE};
    }

    /** Three times the same value, but for one column. */
    static int[] but(int column, int number, int others) {
        int[] numbers = {others, others, others};
        numbers[column] = number;
        return numbers;
    }
}
