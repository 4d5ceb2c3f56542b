import java.util.Arrays;

/** The edges of promises 1 to 6 and 8: slots that are free, taken or none, the fullest object, the longest jump. */
public final class SlotEdgesTest {
    private static final int LEAST = Integer.MIN_VALUE;
    private static final int MOST = Integer.MAX_VALUE;
    /** Numbers that are no slot; 256 and 65536 + 1 would be one if only their lower bits were looked at. */
    private static final int[] NO_SLOTS = {-1, -8, 8, 9, 16, 256, 65537, LEAST, MOST};

    private final Due due = new Due();

    public static void main(String[] args) {
        SlotEdgesTest test = new SlotEdgesTest();
        test.newHasNoStream();
        test.newHasNoRecord();
        test.newHasIndexWeightsAndCards();
        test.anObjectLastsForItsCalls();
        test.makeTakesEachSlot();
        test.makeFillsTheLeastGap();
        test.makeForgetsWhatWasThere();
        test.makeRefusesKinds();
        test.makeRefusesWhenFull();
        test.makeRefusesStates();
        test.makeTestsKindAndSlotBeforeState();
        test.twinIsTheSameAndApart();
        test.twinTakesTheLeastFreeSlot();
        test.twinRefusesSlots();
        test.twinRefusesWhenFull();
        test.releaseFreesEachSlot();
        test.releaseRefusesSlots();
        test.releaseKeepsTheRest();
        test.nextRefusesSlots();
        test.jumpOfNothing();
        test.jumpAtItsLongest();
        test.jumpsOfEachPowerOfTwo();
        test.jumpRefusesLengths();
        test.jumpRefusesSlots();
        test.sameOfOneSlot();
        test.sameOfFreeSlots();
        test.sameOfNoSlots();
        test.sameOfOtherKinds();
        test.sameLooksAtEveryWordOfTheState();
        test.due.end();
    }

    private static NumberStreams full() {
        NumberStreams x = new NumberStreams();
        for (int slot = 0; slot < 8; slot++) {
            x.make(slot % 4, slot + 1, slot + 2);
        }
        return x;
    }

    private void newHasNoStream() {
        due.sentence("Promise 1: All slots free");
        for (int slot = 0; slot < 8; slot++) {
            NumberStreams x = new NumberStreams();
            due.is("next(" + slot + ")", x.next(slot), -1);
            due.is("twin(" + slot + ")", x.twin(slot), -1);
            due.is("release(" + slot + ")", x.release(slot), false);
            due.is("jump(" + slot + ", 0)", x.jump(slot, 0), false);
            due.is("draw(" + slot + ", 1)", x.draw(slot, 1), -1);
            due.is("same(" + slot + ", " + slot + ")", x.same(slot, slot), false);
            due.is("save(" + slot + ")", x.save(slot), -1);
            due.is("pick(" + slot + ")", x.pick(slot), -1);
            due.is("shuffle(" + slot + ")", x.shuffle(slot), false);
        }
        due.is("the first make", new NumberStreams().make(0, 1, 1), 0);
    }

    private void newHasNoRecord() {
        due.sentence("Promise 1: no records");
        for (int record = 0; record < 6; record++) {
            NumberStreams x = new NumberStreams();
            due.is("length(" + record + ")", x.length(record), -1);
            due.is("word(" + record + ", 0)", x.word(record, 0), 0);
            due.is("spoil(" + record + ", 0, 1)", x.spoil(record, 0, 1), false);
            due.is("cut(" + record + ")", x.cut(record), false);
            due.is("restore(" + record + ")", x.restore(record), -1);
        }
        NumberStreams x = new NumberStreams();
        x.make(0, 1, 1);
        due.is("the first save", x.save(0), 0);
    }

    private void newHasIndexWeightsAndCards() {
        due.sentence("an index i (at first 0)");
        NumberStreams x = new NumberStreams();
        for (int d = 0; d < 6; d++) {
            due.is("coordinate(" + d + ")", x.coordinate(d), 0);
        }
        due.is("advance()", x.advance(), 1);
        due.sentence("WEIGHTS: .. at first 0");
        x.make(1, 1, 2);
        due.is("pick(0)", x.pick(0), -1);
        for (int outcome = 0; outcome < 16; outcome++) {
            NumberStreams y = new NumberStreams();
            y.make(1, 1, 2);
            y.weigh(outcome, 1);
            due.is("pick(0) with one weight", y.pick(0), outcome);
        }
        due.sentence("CARDS: .. at first card i lies at place i");
        for (int place = 0; place < 16; place++) {
            due.is("card(" + place + ")", x.card(place), place);
        }
    }

    private void anObjectLastsForItsCalls() {
        due.sentence("An object is used for at most 512 calls after it has been made");
        for (int kind = 0; kind < 4; kind++) {
            NumberStreams x = new NumberStreams();
            NumberStreams y = new NumberStreams();
            x.make(kind, 5, 6);
            y.make(kind, 5, 6);
            for (int call = 2; call < 512; call++) {
                x.next(0);
            }
            y.jump(0, 510);
            due.is("kind " + kind + ", call 512", x.next(0), y.next(0));
        }
        NumberStreams x = new NumberStreams();
        for (int call = 1; call <= 511; call += 2) {
            due.is("make, call " + call, x.make(0, call, call), 0);
            due.is("release, call " + (call + 1), x.release(0), true);
        }
    }

    private void makeTakesEachSlot() {
        due.sentence("Promise 2: Makes a stream in the least free slot and answers the slot");
        for (int kind = 0; kind < 4; kind++) {
            NumberStreams x = new NumberStreams();
            for (int slot = 0; slot < 8; slot++) {
                due.is("make of kind " + kind, x.make(kind, 1, slot), slot);
                due.is("next(" + slot + ") is a word", x.next(slot) >= 0, true);
            }
        }
    }

    private void makeFillsTheLeastGap() {
        due.sentence("Promise 2: in the least free slot");
        for (int gap = 0; gap < 8; gap++) {
            NumberStreams x = full();
            x.release(7);
            x.release(gap);
            due.is("make into the gap " + gap, x.make(1, 1, 1), gap);
            due.is("the next make", x.make(1, 1, 1), gap == 7 ? -1 : 7);
        }
    }

    private void makeForgetsWhatWasThere() {
        due.sentence("Promise 2: The state: (of the new stream alone)");
        for (int before = 0; before < 4; before++) {
            for (int kind = 0; kind < 4; kind++) {
                NumberStreams x = new NumberStreams();
                x.make(before, 1234567, 7654321);
                x.jump(0, 9);
                x.release(0);
                x.make(kind, 5, 6);
                NumberStreams y = new NumberStreams();
                y.make(kind, 5, 6);
                x.save(0);
                y.save(0);
                for (int i = 0; i < 6; i++) {
                    due.is("kind " + kind + " after kind " + before + ", word " + i, x.word(0, i), y.word(0, i));
                }
            }
        }
    }

    private void makeRefusesKinds() {
        due.sentence("Promise 2: -1 when kind is not 0 .. 3");
        NumberStreams x = new NumberStreams();
        for (int kind : new int[] {-1, 4, 5, 256, 65536, -4, LEAST, MOST}) {
            due.is("make(" + kind + ", 1, 1)", x.make(kind, 1, 1), -1);
        }
        due.is("make(0, 1, 1)", x.make(0, 1, 1), 0);
        due.is("make(3, 1, 1)", x.make(3, 1, 1), 1);
    }

    private void makeRefusesWhenFull() {
        due.sentence("Promise 2: -1 when .. no slot is free");
        NumberStreams x = full();
        for (int kind = 0; kind < 4; kind++) {
            due.is("make(" + kind + ", 1, 1)", x.make(kind, 1, 1), -1);
        }
        x.release(7);
        due.is("make(0, 1, 1) when slot 7 is free", x.make(0, 1, 1), 7);
        due.is("make(0, 1, 1) when it is taken", x.make(0, 1, 1), -1);
    }

    private void makeRefusesStates() {
        due.sentence("Promise 2: -2 when the state would be none of that kind");
        NumberStreams x = new NumberStreams();
        int[][] none = {{1, 0, 0}, {3, 0, 0}, {3, MOST, 1}, {3, 1, MOST}, {3, -1, 1}, {3, 1, -1}, {3, LEAST, 0}};
        for (int[] s : none) {
            due.is("make(" + s[0] + ", " + s[1] + ", " + s[2] + ")", x.make(s[0], s[1], s[2]), -2);
            due.is("next(0)", x.next(0), -1);
        }
        int[][] all = {{0, 0}, {-1, -1}, {0, -1}, {-1, 0}, {LEAST, LEAST}, {MOST, MOST}, {LEAST, 0}, {0, LEAST}};
        for (int[] ab : all) {
            due.is("kind 0 takes " + ab[0] + ", " + ab[1], new NumberStreams().make(0, ab[0], ab[1]), 0);
            due.is("kind 2 takes " + ab[0] + ", " + ab[1], new NumberStreams().make(2, ab[0], ab[1]), 0);
        }
        due.is("the least free slot is still 0", x.make(3, 0, 1), 0);
    }

    private void makeTestsKindAndSlotBeforeState() {
        due.sentence("refusals are tested in the order in which they are named: make");
        NumberStreams x = new NumberStreams();
        due.is("no kind, no state: make(4, 0, 0)", x.make(4, 0, 0), -1);
        due.is("no kind, no state: make(-1, 0, 0)", x.make(-1, 0, 0), -1);
        due.is("no kind, no state: make(5, -1, -1)", x.make(5, -1, -1), -1);
        NumberStreams y = full();
        due.is("no slot, no state: make(1, 0, 0)", y.make(1, 0, 0), -1);
        due.is("no slot, no state: make(3, 0, 0)", y.make(3, 0, 0), -1);
        due.is("no slot, no state: make(3, -1, 0)", y.make(3, -1, 0), -1);
        due.is("no slot, no kind, no state: make(4, 0, 0)", y.make(4, 0, 0), -1);
    }

    private void twinIsTheSameAndApart() {
        due.sentence("Promise 3: Makes a stream with the same kind and state");
        for (int kind = 0; kind < 4; kind++) {
            NumberStreams x = new NumberStreams();
            x.make(kind, 21, 22);
            x.jump(0, 5);
            due.is("twin(0)", x.twin(0), 1);
            due.is("same(0, 1)", x.same(0, 1), true);
            x.save(0);
            x.save(1);
            for (int i = 0; i < 6; i++) {
                due.is("kind " + kind + ", saved word " + i, x.word(1, i), x.word(0, i));
            }
            long word = x.next(0);
            due.is("the twin has not moved", x.same(0, 1), false);
            due.is("its word", x.next(1), word);
            x.release(0);
            due.is("the twin outlives its like", x.next(1) >= 0, true);
        }
    }

    private void twinTakesTheLeastFreeSlot() {
        due.sentence("Promise 3: in the least free slot and answers that slot");
        for (int gap = 0; gap < 7; gap++) {
            NumberStreams x = full();
            x.release(6);
            x.release(gap);
            due.is("twin(7) into the gap " + gap, x.twin(7), gap);
            due.is("same(7, " + gap + ")", x.same(7, gap), true);
        }
        NumberStreams x = full();
        x.release(7);
        due.is("twin(0) into slot 7", x.twin(0), 7);
    }

    private void twinRefusesSlots() {
        due.sentence("Promise 3: -1 when slot holds no stream");
        NumberStreams x = new NumberStreams();
        x.make(1, 1, 1);
        for (int slot : NO_SLOTS) {
            due.is("twin(" + slot + ")", x.twin(slot), -1);
        }
        for (int slot = 1; slot < 8; slot++) {
            due.is("twin(" + slot + ")", x.twin(slot), -1);
        }
        due.is("twin(0)", x.twin(0), 1);
    }

    private void twinRefusesWhenFull() {
        due.sentence("Promise 3: -1 when .. none is free");
        NumberStreams x = full();
        for (int slot = 0; slot < 8; slot++) {
            due.is("twin(" + slot + ")", x.twin(slot), -1);
        }
        due.is("neither a stream nor a free slot", x.twin(8), -1);
    }

    private void releaseFreesEachSlot() {
        due.sentence("Promise 4: The slot is free");
        NumberStreams x = full();
        for (int slot = 7; slot >= 0; slot--) {
            due.is("release(" + slot + ")", x.release(slot), true);
            due.is("next(" + slot + ")", x.next(slot), -1);
            due.is("make takes it", x.make(0, 1, 1), slot);
            due.is("release(" + slot + ") again", x.release(slot), true);
        }
        for (int slot = 0; slot < 8; slot++) {
            due.is("at last next(" + slot + ")", x.next(slot), -1);
        }
    }

    private void releaseRefusesSlots() {
        due.sentence("Promise 4: False when it holds no stream");
        NumberStreams x = full();
        for (int slot : NO_SLOTS) {
            due.is("release(" + slot + ")", x.release(slot), false);
        }
        for (int slot = 0; slot < 8; slot++) {
            due.is("release(" + slot + ")", x.release(slot), true);
            due.is("release(" + slot + ") a second time", x.release(slot), false);
        }
    }

    private void releaseKeepsTheRest() {
        due.sentence("Promise 4: The slot is free (and no other)");
        for (int freed = 0; freed < 8; freed++) {
            NumberStreams x = full();
            NumberStreams y = full();
            x.release(freed);
            for (int slot = 0; slot < 8; slot++) {
                due.is("next(" + slot + ")", x.next(slot), slot == freed ? -1 : y.next(slot));
            }
        }
    }

    private void nextRefusesSlots() {
        due.sentence("Promise 5: -1 when slot holds no stream");
        NumberStreams x = full();
        for (int slot : NO_SLOTS) {
            due.is("next(" + slot + ")", x.next(slot), -1);
        }
        for (int slot = 0; slot < 8; slot++) {
            due.is("next(" + slot + ") is a word", x.next(slot) >= 0, true);
            x.release(slot);
            due.is("next(" + slot + ")", x.next(slot), -1);
        }
    }

    private void jumpOfNothing() {
        due.sentence("Promise 6: Changes the state as k steps would: k = 0");
        for (int kind = 0; kind < 4; kind++) {
            NumberStreams x = new NumberStreams();
            x.make(kind, 3, 4);
            x.twin(0);
            due.is("jump(0, 0)", x.jump(0, 0), true);
            due.is("kind " + kind + " is where it was", x.same(0, 1), true);
        }
    }

    private void jumpAtItsLongest() {
        due.sentence("Promise 6: Changes the state as k steps would: k = 65535");
        int[][] states = {
            {0x33A70CD6, 0x326834C7, 6, 9},
            {0x6514D658, 0x3ED85DF9},
            {3, 0, 65539},
            {0x2D193EDC, 0x5617E06E}};
        for (int kind = 0; kind < 4; kind++) {
            NumberStreams x = new NumberStreams();
            x.make(kind, 3, 4);
            due.is("jump(0, 65535)", x.jump(0, 65535), true);
            x.save(0);
            for (int i = 0; i < states[kind].length; i++) {
                due.is("kind " + kind + ", state word " + i, x.word(0, i + 1), states[kind][i]);
            }
        }
    }

    /** A jump of 1 is a step, each power is two of the power before, and one less is a step less. */
    private void jumpsOfEachPowerOfTwo() {
        due.sentence("Promise 6: Changes the state as k steps would");
        int[][] states = {{0, -1, -1, -1, -1}, {0, LEAST, 1, 0, 1}, {1, -1, LEAST}, {1, 0, 1}, {2, -1, MOST, -40000},
            {2, 5, 0, -40000}, {3, MOST - 1, MOST - 1}, {3, 0, 1}};
        for (int[] told : states) {
            int kind = told[0];
            NumberStreams x = Forge.withRecord(kind, Arrays.copyOfRange(told, 1, told.length));
            for (int k = 1; k <= 32768; k *= 2) {
                due.is("restore(0)", x.restore(0), 1);
                due.is("restore(0)", x.restore(0), 2);
                due.is("restore(0)", x.restore(0), 3);
                x.jump(1, k);
                x.jump(2, k / 2);
                x.jump(2, k - k / 2);
                x.jump(3, k - 1);
                x.next(3);
                due.is("kind " + kind + ", " + k + " is twice its half", x.same(1, 2), true);
                due.is("kind " + kind + ", one less than " + k + " is a step less", x.same(1, 3), true);
                x.release(1);
                x.release(2);
                x.release(3);
            }
        }
    }

    private void jumpRefusesLengths() {
        due.sentence("Promise 6: false when .. k is not 0 .. 65535");
        for (int kind = 0; kind < 4; kind++) {
            NumberStreams x = new NumberStreams();
            x.make(kind, 3, 4);
            x.twin(0);
            for (int k : new int[] {-1, 65536, 65537, -65535, LEAST, MOST}) {
                due.is("jump(0, " + k + ")", x.jump(0, k), false);
                due.is("kind " + kind + " is where it was", x.same(0, 1), true);
            }
        }
    }

    private void jumpRefusesSlots() {
        due.sentence("Promise 6: false when slot holds no stream");
        NumberStreams x = new NumberStreams();
        x.make(1, 3, 4);
        for (int slot : NO_SLOTS) {
            due.is("jump(" + slot + ", 0)", x.jump(slot, 0), false);
            due.is("jump(" + slot + ", 1)", x.jump(slot, 1), false);
            due.is("neither stream nor length: jump(" + slot + ", -1)", x.jump(slot, -1), false);
        }
        for (int slot = 1; slot < 8; slot++) {
            due.is("jump(" + slot + ", 0)", x.jump(slot, 0), false);
        }
    }

    private void sameOfOneSlot() {
        due.sentence("Promise 8: Whether both slots hold streams of the same kind with the same state: one slot");
        NumberStreams x = full();
        for (int slot = 0; slot < 8; slot++) {
            due.is("same(" + slot + ", " + slot + ")", x.same(slot, slot), true);
        }
    }

    private void sameOfFreeSlots() {
        due.sentence("Promise 8: Whether both slots hold streams: free slots");
        NumberStreams x = new NumberStreams();
        x.make(1, 1, 1);
        x.make(1, 1, 1);
        x.release(1);
        for (int slot = 1; slot < 8; slot++) {
            due.is("same(" + slot + ", " + slot + ")", x.same(slot, slot), false);
            due.is("same(0, " + slot + ")", x.same(0, slot), false);
            due.is("same(" + slot + ", 0)", x.same(slot, 0), false);
            due.is("same(" + slot + ", 1)", x.same(slot, 1), false);
        }
    }

    private void sameOfNoSlots() {
        due.sentence("Promise 8: Whether both slots hold streams: no slots");
        NumberStreams x = full();
        for (int slot : NO_SLOTS) {
            due.is("same(" + slot + ", " + slot + ")", x.same(slot, slot), false);
            due.is("same(0, " + slot + ")", x.same(0, slot), false);
            due.is("same(" + slot + ", 0)", x.same(slot, 0), false);
        }
    }

    private void sameOfOtherKinds() {
        due.sentence("Promise 8: of the same kind");
        NumberStreams x = new NumberStreams();
        for (int kind = 1; kind < 4; kind++) {
            x.make(kind, 5, 6);
        }
        for (int slot = 0; slot < 3; slot++) {
            for (int other = 0; other < 3; other++) {
                due.is("same(" + slot + ", " + other + ")", x.same(slot, other), slot == other);
            }
        }
        NumberStreams y = Forge.withRecord(0, 0, 5, 0, 7);
        y.restore(0);
        for (int kind = 1; kind < 4; kind++) {
            int slot = y.make(kind, 5, 7);
            due.is("s = 5 and c = 7 beside kind " + kind, y.same(1, slot), false);
        }
    }

    private void sameLooksAtEveryWordOfTheState() {
        due.sentence("Promise 8: with the same state");
        int[][] states = {{1, 2, 3, 5}, {1, 2}, {1, 2, 3}, {1, 2}};
        for (int kind = 0; kind < 4; kind++) {
            for (int i = 0; i < states[kind].length; i++) {
                // Bit 1: c stays odd, and no state becomes none.
                int[] other = states[kind].clone();
                other[i] ^= 2;
                NumberStreams x = new NumberStreams();
                x.make(kind, 1, 1);
                x.save(0);
                x.save(0);
                Forge.writeState(x, 0, kind, states[kind]);
                Forge.writeState(x, 1, kind, other);
                x.restore(0);
                x.restore(1);
                x.restore(0);
                due.is("kind " + kind + ", another word " + i, x.same(1, 2), false);
                due.is("kind " + kind + ", another word " + i + ", turned round", x.same(2, 1), false);
                due.is("kind " + kind + ", all words alike", x.same(1, 3), true);
            }
        }
    }
}
