/** The edges of a draw and of promise 7: which word is rejected, the eighth, the least and the greatest n. */
public final class DrawEdgesTest {
    private static final int LEAST = Integer.MIN_VALUE;
    private static final int MOST = Integer.MAX_VALUE;
    /** Just above a third of 2^32: no bound rejects more words. */
    private static final int HARD_BOUND = 1431655766;
    private static final int[] NO_SLOTS = {-1, -8, 8, 9, 16, 256, 65537, LEAST, MOST};
    private static final int[] ODD_BOUNDS = {3, 5, 7, 9, 15, 99, 1000001, 1431655767, 1073741825, 2147483645, MOST};

    private final Due due = new Due();

    public static void main(String[] args) {
        DrawEdgesTest test = new DrawEdgesTest();
        test.resultsAtBothEnds();
        test.theFirstWordThatIsKept();
        test.theLastWordThatIsRejected();
        test.theLeastWordIsRejected();
        test.lowerBitsAreANumber();
        test.evenBoundsRejectToo();
        test.powersOfTwoRejectNothing();
        test.nOfOne();
        test.nAtItsGreatest();
        test.theNextWordIsTaken();
        test.theSeventhWord();
        test.theEighthWordOfGoodSort();
        test.theEighthWordIsNotRejected();
        test.eachDrawCountsForItself();
        test.refusesSmallN();
        test.refusesSlots();
        test.due.end();
    }

    private static long threshold(int n) {
        return 4294967296L % n;
    }

    private static boolean isRejected(long word, int n) {
        return (word * n & 0xFFFFFFFFL) < threshold(n);
    }

    /** A draw whose first word is kept. */
    private void kept(int word, int n) {
        NumberStreams x = new NumberStreams();
        Aim.make(x, word, 1);
        x.twin(0);
        x.next(1);
        due.is("word " + word + ", draw(0, " + n + ")", x.draw(0, n), Aim.result(word, n));
        due.is("word " + word + ", draw(0, " + n + ") took one word", x.same(0, 1), true);
    }

    /** A draw whose first word is rejected and whose second is kept. */
    private void rejected(int word, int n) {
        int second = Aim.wordFor(n - 1, n);
        NumberStreams x = new NumberStreams();
        Aim.make(x, word, second);
        x.twin(0);
        x.next(1);
        x.next(1);
        due.is("word " + word + ", draw(0, " + n + ")", x.draw(0, n), n - 1);
        due.is("word " + word + ", draw(0, " + n + ") took two words", x.same(0, 1), true);
    }

    private void resultsAtBothEnds() {
        due.sentence("The result is the upper 32 bits of m");
        for (int n : new int[] {2, 3, 6, 16, 1000, 16000000, 1073741824, HARD_BOUND, MOST - 1, MOST}) {
            for (int result : new int[] {0, 1, n / 2, n - 2, n - 1}) {
                NumberStreams x = new NumberStreams();
                Aim.make(x, Aim.wordFor(result, n), 1);
                due.is("draw(0, " + n + ") aimed at " + result, x.draw(0, n), result);
            }
            kept(-1, n);
        }
    }

    private void theFirstWordThatIsKept() {
        due.sentence("If the lower 32 bits of m are less than 4294967296 mod n: just as many");
        for (int n : ODD_BOUNDS) {
            kept(Aim.wordWithLower((int) threshold(n), n), n);
            kept(Aim.wordWithLower((int) threshold(n) + 1, n), n);
        }
    }

    private void theLastWordThatIsRejected() {
        due.sentence("If the lower 32 bits of m are less than 4294967296 mod n: one less");
        for (int n : ODD_BOUNDS) {
            rejected(Aim.wordWithLower((int) threshold(n) - 1, n), n);
        }
    }

    private void theLeastWordIsRejected() {
        due.sentence("the word is rejected and the next one is taken: the word 0");
        for (int n : ODD_BOUNDS) {
            rejected(0, n);
        }
        rejected(0, 6);
        rejected(0, HARD_BOUND);
        rejected(0, MOST - 1);
    }

    private void lowerBitsAreANumber() {
        due.sentence("the lower 32 bits of m, as a number");
        for (int n : ODD_BOUNDS) {
            kept(Aim.wordWithLower(LEAST, n), n);
            kept(Aim.wordWithLower(-1, n), n);
            kept(Aim.wordWithLower(MOST, n), n);
        }
        due.sentence("the product of that word, as a number, and n");
        for (int n : new int[] {16, 1000, 1073741824}) {
            kept(LEAST + 12345, n);
            kept(-12345, n);
        }
    }

    /** 16000000 is 2^10 * 15625, so its lower bits are multiples of 2^10, as is 4294967296 mod 16000000. */
    private void evenBoundsRejectToo() {
        due.sentence("less than 4294967296 mod n: n even");
        int part = (int) threshold(16000000) >>> 10;
        kept(Aim.wordWithLower(part, 15625), 16000000);
        rejected(Aim.wordWithLower(part - 1, 15625) & 0x3FFFFF, 16000000);
        int half = (int) threshold(HARD_BOUND) >>> 1;
        kept(Aim.wordWithLower(half, HARD_BOUND >>> 1), HARD_BOUND);
        rejected(Aim.wordWithLower(half - 1, HARD_BOUND >>> 1), HARD_BOUND);
    }

    private void powersOfTwoRejectNothing() {
        due.sentence("less than 4294967296 mod n: n a power of two");
        for (int bits = 0; bits < 31; bits++) {
            kept(0, 1 << bits);
            kept(1, 1 << bits);
            kept(-1, 1 << bits);
            kept(LEAST, 1 << bits);
        }
    }

    private void nOfOne() {
        due.sentence("A DRAW below n (1 .. 2147483647): n = 1");
        for (int kind = 0; kind < 4; kind++) {
            NumberStreams x = new NumberStreams();
            x.make(kind, 8, 9);
            x.twin(0);
            for (int i = 0; i < 20; i++) {
                due.is("draw(0, 1)", x.draw(0, 1), 0);
                x.next(1);
            }
            due.is("a draw below 1 takes a word too", x.same(0, 1), true);
        }
    }

    private void nAtItsGreatest() {
        due.sentence("A DRAW below n (1 .. 2147483647): n = 2147483647");
        kept(-1, MOST);
        kept(1, MOST);
        kept(2, MOST);
        rejected(0, MOST);
        rejected(Aim.wordWithLower(1, MOST), MOST);
        kept(Aim.wordWithLower(2, MOST), MOST);
    }

    private void theNextWordIsTaken() {
        due.sentence("the word is rejected and the next one is taken");
        for (int n : new int[] {7, 99, 1073741825, MOST}) {
            NumberStreams x = new NumberStreams();
            Aim.make(x, 0, Aim.wordWithLower((int) threshold(n) - 1, n));
            x.twin(0);
            x.next(1);
            x.next(1);
            long third = x.next(1);
            due.is("the third word is one to reject", isRejected(third, n), false);
            due.is("two words rejected, draw(0, " + n + ")", x.draw(0, n), third * n >>> 32);
            due.is("three words are taken", x.same(0, 1), true);
        }
    }

    /** A draw below the hard bound from a stream of which it is known how many words the draw takes. */
    private void hardDraw(int kind, int seed, int taken, boolean lastIsBad) {
        String stream = "kind " + kind + ", seed " + seed;
        NumberStreams x = new NumberStreams();
        x.make(kind, seed, seed + 1);
        x.twin(0);
        long word = x.next(1);
        for (int i = 1; i < taken; i++) {
            due.is(stream + ", word " + i + " is one to reject", isRejected(word, HARD_BOUND), true);
            word = x.next(1);
        }
        due.is(stream + ", word " + taken + " is one to reject", isRejected(word, HARD_BOUND), lastIsBad);
        due.is(stream + ", draw", x.draw(0, HARD_BOUND), word * HARD_BOUND >>> 32);
        due.is(stream + ", words taken", x.same(0, 1), true);
        due.is(stream + ", the word after", x.next(0), x.next(1));
    }

    private void theSeventhWord() {
        due.sentence("the word is rejected and the next one is taken: up to the seventh");
        hardDraw(0, 42, 6, false);
        hardDraw(1, 101, 6, false);
        hardDraw(2, 335, 6, false);
        hardDraw(3, 814, 6, false);
        hardDraw(0, 1500, 7, false);
        hardDraw(1, 2159, 7, false);
        hardDraw(2, 193, 7, false);
        hardDraw(3, 2887, 7, false);
    }

    private void theEighthWordOfGoodSort() {
        due.sentence("the word is rejected and the next one is taken: the seventh");
        hardDraw(0, 120, 8, false);
        hardDraw(1, 6187, 8, false);
        hardDraw(2, 6610, 8, false);
        hardDraw(3, 676, 8, false);
    }

    private void theEighthWordIsNotRejected() {
        due.sentence("but the eighth word of a draw is not rejected");
        hardDraw(0, 4272, 8, true);
        hardDraw(1, 2726, 8, true);
        hardDraw(2, 2348, 8, true);
        hardDraw(3, 28664, 8, true);
    }

    /** Two draws that take more than eight words together, each of them fewer. */
    private void eachDrawCountsForItself() {
        due.sentence("the eighth word of a draw");
        int[][] streams = {{0, 3807, 441863225, 357848456, 10}, {1, 8545, 821559392, 1036551787, 11},
            {2, 9509, 838479428, 611578499, 10}, {3, 11270, 853948875, 1098916796, 10}};
        for (int[] s : streams) {
            NumberStreams x = new NumberStreams();
            x.make(s[0], s[1], s[1] + 1);
            x.twin(0);
            due.is("kind " + s[0] + ", the first draw", x.draw(0, HARD_BOUND), s[2]);
            due.is("kind " + s[0] + ", the second draw", x.draw(0, HARD_BOUND), s[3]);
            x.jump(1, s[4]);
            due.is("kind " + s[0] + ", words taken", x.same(0, 1), true);
        }
    }

    private void refusesSmallN() {
        due.sentence("Promise 7: -1 when .. n is less than 1");
        for (int kind = 0; kind < 4; kind++) {
            NumberStreams x = new NumberStreams();
            x.make(kind, 8, 9);
            x.twin(0);
            for (int n : new int[] {0, -1, -2, -6, -MOST, LEAST}) {
                due.is("draw(0, " + n + ")", x.draw(0, n), -1);
                due.is("it takes no word", x.same(0, 1), true);
            }
        }
    }

    private void refusesSlots() {
        due.sentence("Promise 7: -1 when slot holds no stream");
        NumberStreams x = new NumberStreams();
        x.make(1, 8, 9);
        for (int slot : NO_SLOTS) {
            due.is("draw(" + slot + ", 5)", x.draw(slot, 5), -1);
            due.is("neither stream nor bound: draw(" + slot + ", 0)", x.draw(slot, 0), -1);
        }
        for (int slot = 1; slot < 8; slot++) {
            due.is("draw(" + slot + ", 1)", x.draw(slot, 1), -1);
        }
    }
}
