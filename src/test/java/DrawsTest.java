/** Promises 7 and 18 to 21: draws, weighted picks and shuffles. */
public final class DrawsTest {
    private static final int[] NO_SLOTS = {-1, 1, 8, Integer.MIN_VALUE, Integer.MAX_VALUE};
    /** Just above a third of 2^32: no bound rejects more words. */
    private static final int HARD_BOUND = 1431655766;

    private final Due due = new Due();

    public static void main(String[] args) {
        DrawsTest test = new DrawsTest();
        test.drawTakesTheUpperHalf();
        test.drawRejects();
        test.drawKeepsTheEighthWord();
        test.drawRefuses();
        test.weighRefuses();
        test.pickFollowsTheWeights();
        test.pickIsADrawBelowTheSum();
        test.pickRefuses();
        test.shuffleSwaps();
        test.shuffleRefuses();
        test.cardRefuses();
        test.due.end();
    }

    /** Below a power of two no word is rejected. */
    private void drawTakesTheUpperHalf() {
        for (int kind = 0; kind < 4; kind++) {
            NumberStreams x = new NumberStreams();
            x.make(kind, 21, 22);
            x.twin(0);
            for (int bits = 0; bits < 31; bits++) {
                due.is("draw(0, 2^" + bits + ")", x.draw(0, 1 << bits), x.next(1) >>> (32 - bits));
            }
            due.is("a draw is one step here", x.same(0, 1), true);
        }
    }

    private void drawRejects() {
        NumberStreams x = new NumberStreams();
        x.make(1, 0, 1);
        x.twin(0);
        due.is("the first word", x.next(1), 0);
        long second = x.next(1);
        due.is("draw(0, 3) goes past the word 0", x.draw(0, 3), second * 3 >>> 32);
        due.is("two words were taken", x.same(0, 1), true);

        x.make(1, 0, 1);
        x.twin(2);
        x.next(3);
        due.is("draw(2, 1) keeps the word 0", x.draw(2, 1), 0);
        due.is("one word was taken", x.same(2, 3), true);
        for (int n : new int[] {3, 5, 6, 7, 1000, HARD_BOUND, 1073741825, 2147483646, Integer.MAX_VALUE}) {
            againstModel(n);
        }
    }

    private void againstModel(int n) {
        for (int kind = 0; kind < 4; kind++) {
            NumberStreams x = new NumberStreams();
            Model model = new Model();
            x.make(kind, 31, 32);
            model.make(kind, 31, 32);
            for (int i = 0; i < 100; i++) {
                due.is("kind " + kind + ", draw(0, " + n + ")", x.draw(0, n), model.draw(0, n));
            }
            due.is("kind " + kind + ", the word after", x.next(0), model.next(0));
        }
    }

    private void drawKeepsTheEighthWord() {
        int kept = 0;
        for (int seed = 1; seed < 200000 && kept < 3; seed++) {
            Model model = new Model();
            model.make(2, seed, 0);
            long wanted = model.draw(0, HARD_BOUND);
            if (model.mostTaken >= 7) {
                NumberStreams x = new NumberStreams();
                x.make(2, seed, 0);
                x.twin(0);
                x.jump(1, model.mostTaken);
                due.is("seed " + seed + ", a long draw", x.draw(0, HARD_BOUND), wanted);
                due.is("seed " + seed + ", its words", x.same(0, 1), true);
                kept += model.keptBadEighth ? 1 : 0;
            }
        }
        due.is("draws found whose eighth word would be rejected", kept, 3);
    }

    private void drawRefuses() {
        NumberStreams x = new NumberStreams();
        due.is("draw of a free slot", x.draw(0, 5), -1);
        x.make(0, 1, 2);
        x.twin(0);
        for (int n : new int[] {0, -1, Integer.MIN_VALUE}) {
            due.is("draw(0, " + n + ")", x.draw(0, n), -1);
        }
        due.is("a refused draw takes no word", x.same(0, 1), true);
        x.release(1);
        for (int slot : NO_SLOTS) {
            due.is("draw(" + slot + ", 5)", x.draw(slot, 5), -1);
        }
        due.is("draw(0, 1)", x.draw(0, 1), 0);
    }

    private void weighRefuses() {
        NumberStreams x = new NumberStreams();
        x.make(0, 1, 2);
        for (int outcome : new int[] {-1, 16, Integer.MIN_VALUE, Integer.MAX_VALUE}) {
            due.is("weigh(" + outcome + ", 1)", x.weigh(outcome, 1), false);
        }
        for (int w : new int[] {-1, 1000001, Integer.MIN_VALUE, Integer.MAX_VALUE}) {
            due.is("weigh(4, " + w + ")", x.weigh(4, w), false);
        }
        due.is("all weights are still 0", x.pick(0), -1);
        due.is("weigh(0, 1000000)", x.weigh(0, 1000000), true);
        due.is("weigh(0, 1000001)", x.weigh(0, 1000001), false);
        due.is("weigh(0, -1)", x.weigh(0, -1), false);
        due.is("pick(0)", x.pick(0), 0);
        due.is("weigh(0, 0)", x.weigh(0, 0), true);
        due.is("weigh(15, 1)", x.weigh(15, 1), true);
        due.is("pick(0)", x.pick(0), 15);
    }

    private void pickFollowsTheWeights() {
        NumberStreams x = new NumberStreams();
        x.make(3, 41, 42);
        for (int outcome = 0; outcome < 16; outcome++) {
            x.weigh(outcome, 3);
            for (int i = 0; i < 5; i++) {
                due.is("pick(0) with one weight", x.pick(0), outcome);
            }
            x.weigh(outcome, 0);
        }
        due.is("pick(0) without weights", x.pick(0), -1);
    }

    private void pickIsADrawBelowTheSum() {
        NumberStreams x = new NumberStreams();
        x.make(1, 51, 52);
        x.twin(0);
        x.weigh(2, 1);
        x.weigh(5, 2);
        x.weigh(6, 4);
        x.weigh(15, 1);
        int[] outcomes = {2, 5, 5, 6, 6, 6, 6, 15};
        for (int i = 0; i < 60; i++) {
            due.is("pick(0)", x.pick(0), outcomes[x.draw(1, 8)]);
        }
        for (int outcome = 0; outcome < 16; outcome++) {
            x.weigh(outcome, 1000000);
        }
        for (int i = 0; i < 60; i++) {
            due.is("pick(0), all weights at their greatest", x.pick(0), x.draw(1, 16000000) / 1000000);
        }
        due.is("picks take the words of their draws", x.same(0, 1), true);
    }

    private void pickRefuses() {
        NumberStreams x = new NumberStreams();
        x.make(0, 1, 2);
        x.twin(0);
        due.is("pick(0) without weights", x.pick(0), -1);
        due.is("no draw was made", x.same(0, 1), true);
        x.release(1);
        x.weigh(1, 1);
        for (int slot : NO_SLOTS) {
            due.is("pick(" + slot + ")", x.pick(slot), -1);
        }
        due.is("pick(0)", x.pick(0), 1);
    }

    private void shuffleSwaps() {
        for (int kind = 0; kind < 4; kind++) {
            NumberStreams x = new NumberStreams();
            x.make(kind, 61, 62);
            x.twin(0);
            int[] cards = new int[16];
            for (int place = 0; place < 16; place++) {
                cards[place] = place;
                due.is("at first card(" + place + ")", x.card(place), place);
            }
            for (int round = 0; round < 3; round++) {
                due.is("shuffle(0)", x.shuffle(0), true);
                for (int i = 15; i >= 1; i--) {
                    int place = x.draw(1, i + 1);
                    int held = cards[place];
                    cards[place] = cards[i];
                    cards[i] = held;
                }
                for (int place = 0; place < 16; place++) {
                    due.is("round " + round + ", card(" + place + ")", x.card(place), cards[place]);
                }
                due.is("fifteen draws were made", x.same(0, 1), true);
            }
        }
    }

    private void shuffleRefuses() {
        NumberStreams x = new NumberStreams();
        x.make(0, 1, 2);
        for (int slot : NO_SLOTS) {
            due.is("shuffle(" + slot + ")", x.shuffle(slot), false);
        }
        for (int place = 0; place < 16; place++) {
            due.is("card(" + place + ") after refusals", x.card(place), place);
        }
    }

    private void cardRefuses() {
        NumberStreams x = new NumberStreams();
        for (int place : new int[] {-1, 16, Integer.MIN_VALUE, Integer.MAX_VALUE}) {
            due.is("card(" + place + ")", x.card(place), -1);
        }
    }
}
