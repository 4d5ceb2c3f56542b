/**
 * Streams whose first words are chosen beforehand, so that a test can put a word just on an edge. Kind 1 can be turned
 * back: every word belongs to one a, and every second a to one b.
 */
final class Aim {
    private static final int INVERSE_OF_5 = inverse(5);
    private static final int INVERSE_OF_FACTOR = inverse(0x9E3779BB);

    private Aim() {
    }

    /** The number whose product with an odd number has the lower 32 bits 1; each round doubles the bits that are right. */
    static int inverse(int odd) {
        int x = odd;
        for (int i = 0; i < 5; i++) {
            x *= 2 - odd * x;
        }
        return x;
    }

    private static int partOfWord(int word) {
        return Integer.rotateRight(word * INVERSE_OF_5, 5) * INVERSE_OF_FACTOR;
    }

    /** A new stream of kind 1 with these two words first; answers its slot. */
    static int make(NumberStreams x, int first, int second) {
        int a = partOfWord(first);
        int mixed = partOfWord(second) ^ Integer.rotateLeft(a, 26);
        int b = mixed ^ (mixed << 9) ^ (mixed << 18) ^ (mixed << 27);
        return x.make(1, a, b ^ a);
    }

    /** A word that gives this result in a draw below n, and that is not rejected. */
    static int wordFor(int result, int n) {
        long least = ((long) result * 4294967296L + n - 1) / n;
        return (int) (least + 1);
    }

    /** A word whose product with the odd number n has these lower 32 bits. */
    static int wordWithLower(int lower, int n) {
        return lower * inverse(n);
    }

    static long result(int word, int n) {
        return Integer.toUnsignedLong(word) * n >>> 32;
    }
}
