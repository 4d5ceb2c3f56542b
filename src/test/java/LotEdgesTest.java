import java.util.Arrays;

/** The edges of promises 18 to 21: weights, picks, shuffles and cards. */
public final class LotEdgesTest {
    private static final int LEAST = Integer.MIN_VALUE;
    private static final int MOST = Integer.MAX_VALUE;
    private static final int HEAVIEST = 1000000;
    private static final int[] NO_SLOTS = {-1, -8, 8, 9, 16, 256, 65537, LEAST, MOST};
    /** Numbers that are neither an outcome nor a place. */
    private static final int[] NOT_OF_SIXTEEN = {-1, -16, 16, 17, 256, 65536, LEAST, MOST};

    private final Due due = new Due();

    public static void main(String[] args) {
        LotEdgesTest test = new LotEdgesTest();
        test.weighTakesTheLeastAndTheGreatest();
        test.weighWritesOver();
        test.weighRefusesOutcomes();
        test.weighRefusesWeights();
        test.pickAtEveryEdgeOfAnOutcome();
        test.pickSkipsWeightsOfZero();
        test.pickOfOneOutcome();
        test.pickOfTheGreatestSum();
        test.pickRejectsAsADrawDoes();
        test.pickBelowOneTakesAWord();
        test.pickRefusesSlots();
        test.pickRefusesWithoutWeights();
        test.shuffleGoesDownFromFifteen();
        test.shuffleLeavesACardInPlace();
        test.shuffleRejectsAsADrawDoes();
        test.shuffleMakesFifteenDraws();
        test.shuffleGoesOnFromTheOrderThatIs();
        test.shuffleRefusesSlots();
        test.cardOfEachPlace();
        test.cardRefusesPlaces();
        test.due.end();
    }

    private static NumberStreams aimed(int first, int second, int... weights) {
        NumberStreams x = new NumberStreams();
        Aim.make(x, first, second);
        for (int outcome = 0; outcome < weights.length; outcome++) {
            x.weigh(outcome, weights[outcome]);
        }
        return x;
    }

    private void weighTakesTheLeastAndTheGreatest() {
        due.sentence("Promise 18: The weight of an outcome becomes w, and true: 0 and 1000000");
        for (int outcome = 0; outcome < 16; outcome++) {
            NumberStreams x = new NumberStreams();
            x.make(1, 1, 2);
            due.is("weigh(" + outcome + ", 1000000)", x.weigh(outcome, HEAVIEST), true);
            due.is("pick(0)", x.pick(0), outcome);
            due.is("weigh(" + outcome + ", 0)", x.weigh(outcome, 0), true);
            due.is("pick(0)", x.pick(0), -1);
            due.is("weigh(" + outcome + ", 1)", x.weigh(outcome, 1), true);
            due.is("pick(0)", x.pick(0), outcome);
        }
    }

    private void weighWritesOver() {
        due.sentence("Promise 18: The weight of an outcome becomes w");
        NumberStreams x = aimed(Aim.wordFor(2, 4), 1, 5, 1);
        due.is("weigh(0, 3) over 5", x.weigh(0, 3), true);
        due.is("result 2 of 3 + 1", x.pick(0), 0);
        NumberStreams y = aimed(Aim.wordFor(3, 4), 1, 5, 1);
        due.is("weigh(0, 3) over 5", y.weigh(0, 3), true);
        due.is("result 3 of 3 + 1", y.pick(0), 1);
    }

    private void weighRefusesOutcomes() {
        due.sentence("Promise 18: false when outcome is not 0 .. 15");
        NumberStreams x = new NumberStreams();
        x.make(1, 1, 2);
        for (int outcome : NOT_OF_SIXTEEN) {
            due.is("weigh(" + outcome + ", 1)", x.weigh(outcome, 1), false);
            due.is("weigh(" + outcome + ", 0)", x.weigh(outcome, 0), false);
            due.is("neither outcome nor weight: weigh(" + outcome + ", -1)", x.weigh(outcome, -1), false);
        }
        due.is("no outcome has a weight", x.pick(0), -1);
    }

    private void weighRefusesWeights() {
        due.sentence("Promise 18: false when .. w is not 0 .. 1000000");
        for (int w : new int[] {-1, HEAVIEST + 1, -HEAVIEST, LEAST, MOST}) {
            NumberStreams x = aimed(Aim.wordFor(3, 5), Aim.wordFor(2, 5), 3, 2);
            due.is("weigh(0, " + w + ")", x.weigh(0, w), false);
            due.is("weigh(2, " + w + ")", x.weigh(2, w), false);
            due.is("weigh(15, " + w + ")", x.weigh(15, w), false);
            due.is("result 3 of 3 + 2", x.pick(0), 1);
            due.is("result 2 of 3 + 2", x.pick(0), 0);
        }
    }

    private void pickAtEveryEdgeOfAnOutcome() {
        due.sentence("Promise 19: the least outcome for which the sum .. is more than the result");
        int[] weights = {3, 1, 0, 7, 2, 2, 0, 0, 100, 1, 5, 0, 4, 4, 4, 6};
        int total = 139;
        int sum = 0;
        for (int outcome = 0; outcome < 16; outcome++) {
            if (weights[outcome] > 0) {
                int first = Aim.wordFor(sum, total);
                int last = Aim.wordFor(sum + weights[outcome] - 1, total);
                NumberStreams x = aimed(first, last, weights);
                due.is("the first result of outcome " + outcome, x.pick(0), outcome);
                due.is("the last result of outcome " + outcome, x.pick(0), outcome);
            }
            sum += weights[outcome];
        }
        due.is("the sum of all weights", sum, total);
    }

    private void pickSkipsWeightsOfZero() {
        due.sentence("Promise 19: is more than the result: outcomes of weight 0");
        NumberStreams x = aimed(Aim.wordFor(0, 2), Aim.wordFor(1, 2), 0, 0, 1, 0, 0, 1, 0);
        due.is("result 0", x.pick(0), 2);
        due.is("result 1", x.pick(0), 5);
        NumberStreams y = aimed(Aim.wordFor(0, 2), Aim.wordFor(1, 2), 1, 0, 0, 0, 0, 0, 0, 0, 0, 0, 0, 0, 0, 0, 0, 1);
        due.is("result 0", y.pick(0), 0);
        due.is("result 1", y.pick(0), 15);
    }

    private void pickOfOneOutcome() {
        due.sentence("Promise 19: With a draw below the sum of all weights: one weight");
        for (int outcome = 0; outcome < 16; outcome++) {
            int[] weights = new int[16];
            weights[outcome] = HEAVIEST;
            NumberStreams x = aimed(Aim.wordFor(0, HEAVIEST), -1, weights);
            due.is("the least result", x.pick(0), outcome);
            due.is("the greatest result", x.pick(0), outcome);
        }
    }

    private void pickOfTheGreatestSum() {
        due.sentence("Promise 19: With a draw below the sum of all weights: 16000000");
        int[] weights = new int[16];
        Arrays.fill(weights, HEAVIEST);
        for (int outcome = 0; outcome < 16; outcome++) {
            int first = Aim.wordFor(outcome * HEAVIEST, 16 * HEAVIEST);
            int last = Aim.wordFor(outcome * HEAVIEST + HEAVIEST - 1, 16 * HEAVIEST);
            NumberStreams x = aimed(first, last, weights);
            due.is("the first result of outcome " + outcome, x.pick(0), outcome);
            due.is("the last result of outcome " + outcome, x.pick(0), outcome);
        }
        NumberStreams x = aimed(-1, 1, weights);
        due.is("the greatest word", x.pick(0), 15);
    }

    private void pickRejectsAsADrawDoes() {
        due.sentence("Promise 19: With a draw below the sum of all weights: a word that is rejected");
        NumberStreams x = aimed(0, Aim.wordFor(2, 3), 1, 1, 1);
        due.is("the word 0 of a sum of 3", x.pick(0), 2);
        int edge = (int) (4294967296L % 1000001);
        NumberStreams y = aimed(Aim.wordWithLower(edge - 1, 1000001), Aim.wordFor(HEAVIEST, 1000001), HEAVIEST, 1);
        y.twin(0);
        y.jump(1, 2);
        due.is("the last word that is rejected", y.pick(0), 1);
        due.is("two words are taken", y.same(0, 1), true);
        NumberStreams z = aimed(Aim.wordWithLower(edge, 1000001), Aim.wordFor(0, 1000001), HEAVIEST, 1);
        z.twin(0);
        z.jump(1, 1);
        due.is("the first word that is kept", z.pick(0), 1);
        due.is("one word is taken", z.same(0, 1), true);
    }

    private void pickBelowOneTakesAWord() {
        due.sentence("Promise 19: With a draw below the sum of all weights: 1");
        NumberStreams x = aimed(0, 1, 0, 0, 0, 1);
        x.twin(0);
        x.next(1);
        due.is("the word 0 of a sum of 1", x.pick(0), 3);
        due.is("one word is taken", x.same(0, 1), true);
    }

    private void pickRefusesSlots() {
        due.sentence("Promise 19: -1 when slot holds no stream");
        NumberStreams x = aimed(1, 2, 5, 6);
        for (int slot : NO_SLOTS) {
            due.is("pick(" + slot + ")", x.pick(slot), -1);
        }
        for (int slot = 1; slot < 8; slot++) {
            due.is("pick(" + slot + ")", x.pick(slot), -1);
        }
        due.sentence("Promise 19: -1 when slot holds no stream or all weights are 0: both");
        due.is("pick(0) of a new object", new NumberStreams().pick(0), -1);
        due.is("pick(-1) of a new object", new NumberStreams().pick(-1), -1);
    }

    private void pickRefusesWithoutWeights() {
        due.sentence("Promise 19: -1, without a draw, when .. all weights are 0");
        for (int kind = 0; kind < 4; kind++) {
            NumberStreams x = new NumberStreams();
            x.make(kind, 8, 9);
            x.twin(0);
            due.is("pick(0)", x.pick(0), -1);
            due.is("no word is taken", x.same(0, 1), true);
            x.weigh(15, 1);
            x.weigh(15, 0);
            due.is("pick(0) when the last weight is 0 again", x.pick(0), -1);
            due.is("no word is taken", x.same(0, 1), true);
        }
    }

    private static int[] newCards() {
        int[] cards = new int[16];
        for (int place = 0; place < 16; place++) {
            cards[place] = place;
        }
        return cards;
    }

    /** What the document says of a shuffle, with the draws of slot 1. */
    private static void shuffleAlike(NumberStreams x, int[] cards) {
        for (int i = 15; i >= 1; i--) {
            int place = x.draw(1, i + 1);
            int card = cards[i];
            cards[i] = cards[place];
            cards[place] = card;
        }
    }

    private void cardsAre(NumberStreams x, int[] cards) {
        for (int place = 0; place < 16; place++) {
            due.is("card(" + place + ")", x.card(place), cards[place]);
        }
    }

    /** Later draws reach only places below, so the first two words settle the cards at places 15 and 14. */
    private void shuffleGoesDownFromFifteen() {
        due.sentence("Promise 20: For i = 15, 14, .. 1: a draw below i + 1 from a stream");
        for (int place = 0; place < 15; place++) {
            NumberStreams x = aimed(Aim.wordFor(place, 16), Aim.wordFor(place, 15));
            x.twin(0);
            due.is("shuffle(0)", x.shuffle(0), true);
            due.is("card(15) by result " + place, x.card(15), place);
            due.is("card(14) by the same result", x.card(14), 15);
            int[] cards = newCards();
            shuffleAlike(x, cards);
            cardsAre(x, cards);
        }
    }

    private void shuffleLeavesACardInPlace() {
        due.sentence("Promise 20: the cards at places i and the result change places: the same place");
        NumberStreams x = aimed(-1, -1);
        due.is("shuffle(0)", x.shuffle(0), true);
        due.is("card(15)", x.card(15), 15);
        due.is("card(14)", x.card(14), 14);
    }

    private void shuffleRejectsAsADrawDoes() {
        due.sentence("Promise 20: a draw below i + 1: a word that is rejected");
        NumberStreams x = aimed(Aim.wordFor(7, 16), 0);
        x.twin(0);
        x.twin(0);
        int[] cards = newCards();
        shuffleAlike(x, cards);
        due.is("shuffle(0)", x.shuffle(0), true);
        cardsAre(x, cards);
        x.jump(2, 16);
        due.is("sixteen words for fifteen draws", x.same(0, 2), true);
        due.sentence("Promise 20: a draw below 16, of which no word is rejected");
        NumberStreams y = aimed(0, Aim.wordFor(3, 15));
        y.twin(0);
        due.is("shuffle(0)", y.shuffle(0), true);
        due.is("card(15) by the word 0", y.card(15), 0);
        due.is("card(14)", y.card(14), 3);
        y.jump(1, 15);
        due.is("fifteen words", y.same(0, 1), true);
    }

    private void shuffleMakesFifteenDraws() {
        due.sentence("Promise 20: For i = 15, 14, .. 1");
        for (int kind = 0; kind < 4; kind++) {
            NumberStreams x = new NumberStreams();
            x.make(kind, 100, 200);
            x.twin(0);
            x.twin(0);
            int[] cards = newCards();
            shuffleAlike(x, cards);
            due.is("shuffle(0)", x.shuffle(0), true);
            cardsAre(x, cards);
            due.is("kind " + kind + ", the stream stands where fifteen draws leave it", x.same(0, 1), true);
        }
    }

    private void shuffleGoesOnFromTheOrderThatIs() {
        due.sentence("Promise 20: the cards at places i and the result change places: a second shuffle");
        NumberStreams x = new NumberStreams();
        x.make(2, 100, 200);
        x.twin(0);
        int[] cards = newCards();
        for (int round = 0; round < 8; round++) {
            due.is("shuffle(0)", x.shuffle(0), true);
            shuffleAlike(x, cards);
            cardsAre(x, cards);
        }
    }

    private void shuffleRefusesSlots() {
        due.sentence("Promise 20: False when slot holds no stream");
        NumberStreams x = aimed(1, 2);
        for (int slot : NO_SLOTS) {
            due.is("shuffle(" + slot + ")", x.shuffle(slot), false);
        }
        for (int slot = 1; slot < 8; slot++) {
            due.is("shuffle(" + slot + ")", x.shuffle(slot), false);
        }
        cardsAre(x, newCards());
        due.is("shuffle(0)", x.shuffle(0), true);
    }

    private void cardOfEachPlace() {
        due.sentence("Promise 21: The card at a place");
        NumberStreams x = new NumberStreams();
        cardsAre(x, newCards());
        x.make(0, 1, 2);
        x.shuffle(0);
        boolean[] met = new boolean[16];
        for (int place = 0; place < 16; place++) {
            int card = x.card(place);
            due.is("card(" + place + ") is one of sixteen", card >= 0 && card < 16, true);
            if (card >= 0 && card < 16) {
                due.is("card(" + place + ") lies at another place too", met[card], false);
                met[card] = true;
            }
        }
    }

    private void cardRefusesPlaces() {
        due.sentence("Promise 21: -1 when place is not 0 .. 15");
        NumberStreams x = new NumberStreams();
        x.make(0, 1, 2);
        x.shuffle(0);
        for (int place : NOT_OF_SIXTEEN) {
            due.is("card(" + place + ")", x.card(place), -1);
        }
    }
}
