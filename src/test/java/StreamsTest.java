/** Promises 1 to 6 and 8: slots, the four kinds, steps, jumps and sameness. */
public final class StreamsTest {
    private static final int[] NO_SLOTS = {-1, 8, 9, Integer.MIN_VALUE, Integer.MAX_VALUE};

    private final Due due = new Due();

    public static void main(String[] args) {
        StreamsTest test = new StreamsTest();
        test.newObject();
        test.makeTakesTheLeastFreeSlot();
        test.makeRefuses();
        test.makeRefusesInOrder();
        test.makeGivesTheState();
        test.twinIsApart();
        test.twinRefuses();
        test.releaseFreesOnce();
        test.nextRefuses();
        test.kindZeroWords();
        test.kindOneWords();
        test.kindTwoWords();
        test.kindThreeWords();
        test.jumpIsSteps();
        test.jumpRefuses();
        test.sameLooksAtKindAndState();
        test.due.end();
    }

    private void words(String stream, NumberStreams x, int slot, long... wanted) {
        for (int i = 0; i < wanted.length; i++) {
            due.is(stream + ", word " + i, x.next(slot), wanted[i]);
        }
    }

    private void newObject() {
        NumberStreams x = new NumberStreams();
        for (int slot = 0; slot < 8; slot++) {
            due.is("new: next(" + slot + ")", x.next(slot), -1);
            due.is("new: release(" + slot + ")", x.release(slot), false);
            due.is("new: same(" + slot + ", " + slot + ")", x.same(slot, slot), false);
        }
        for (int record = 0; record < 6; record++) {
            due.is("new: length(" + record + ")", x.length(record), -1);
            due.is("new: restore(" + record + ")", x.restore(record), -1);
        }
        NumberStreams other = new NumberStreams();
        x.make(1, 1, 1);
        x.save(0);
        x.weigh(0, 1);
        x.seek(9);
        x.shuffle(0);
        due.is("another object: next(0)", other.next(0), -1);
        due.is("another object: length(0)", other.length(0), -1);
        due.is("another object: advance()", other.advance(), 1);
        due.is("another object: card(15)", other.card(15), 15);
        other.make(1, 1, 1);
        due.is("another object: pick(0)", other.pick(0), -1);
    }

    private void makeTakesTheLeastFreeSlot() {
        NumberStreams x = new NumberStreams();
        for (int slot = 0; slot < 8; slot++) {
            due.is("make, slot " + slot, x.make(slot % 4, 1, 1), slot);
        }
        due.is("make when all are taken", x.make(0, 1, 1), -1);
        x.release(5);
        x.release(2);
        due.is("make after release(5), release(2)", x.make(0, 1, 1), 2);
        due.is("make again", x.make(0, 1, 1), 5);
        due.is("make once more", x.make(0, 1, 1), -1);
    }

    private void makeRefuses() {
        NumberStreams x = new NumberStreams();
        for (int kind : new int[] {-1, 4, Integer.MIN_VALUE, Integer.MAX_VALUE}) {
            due.is("make, kind " + kind, x.make(kind, 1, 1), -1);
        }
        due.is("make(1, 0, 0)", x.make(1, 0, 0), -2);
        due.is("make(3, 0, 0)", x.make(3, 0, 0), -2);
        due.is("make(3, 2147483647, 0)", x.make(3, 2147483647, 0), -2);
        due.is("make(3, 0, 2147483647)", x.make(3, 0, 2147483647), -2);
        due.is("make(3, -1, 1)", x.make(3, -1, 1), -2);
        due.is("make(3, 1, -1)", x.make(3, 1, -1), -2);
        due.is("make(3, 1, MIN)", x.make(3, 1, Integer.MIN_VALUE), -2);
        due.is("next(0) after refusals", x.next(0), -1);
        due.is("make(1, 0, 1)", x.make(1, 0, 1), 0);
        due.is("make(1, 1, 0)", x.make(1, 1, 0), 1);
        due.is("make(3, 2147483646, 0)", x.make(3, 2147483646, 0), 2);
        due.is("make(3, 0, 2147483646)", x.make(3, 0, 2147483646), 3);
        due.is("make(3, 0, 1)", x.make(3, 0, 1), 4);
        due.is("make(0, 0, 0)", x.make(0, 0, 0), 5);
        due.is("make(2, 0, 0)", x.make(2, 0, 0), 6);
        due.is("make(2, MIN, MIN)", x.make(2, Integer.MIN_VALUE, Integer.MIN_VALUE), 7);
    }

    private void makeRefusesInOrder() {
        NumberStreams x = new NumberStreams();
        due.is("a bad kind comes before a bad state", x.make(4, 0, 0), -1);
        for (int slot = 0; slot < 8; slot++) {
            x.make(0, 1, 1);
        }
        due.is("no free slot comes before a bad state", x.make(1, 0, 0), -1);
    }

    private void makeGivesTheState() {
        NumberStreams x = new NumberStreams();
        x.make(0, 0x81234567, 0x89ABCDEF);
        x.make(1, -5, 6);
        x.make(2, -7, -8);
        x.make(3, 9, 10);
        int[][] wanted = {
            {24301824, 0x81234567, 0x89ABCDEF, 0x02468ACF, 0x13579BDF},
            {24301825, -5, 6},
            {24301826, -7, 0, -8},
            {24301827, 9, 10}};
        for (int kind = 0; kind < 4; kind++) {
            x.save(kind);
            for (int i = 0; i < wanted[kind].length; i++) {
                due.is("state of kind " + kind + ", word " + i, x.word(kind, i), wanted[kind][i]);
            }
        }
    }

    private void twinIsApart() {
        for (int kind = 0; kind < 4; kind++) {
            NumberStreams x = new NumberStreams();
            x.make(kind, 11, 12);
            x.next(0);
            due.is("twin(0)", x.twin(0), 1);
            due.is("same(0, 1)", x.same(0, 1), true);
            long word = x.next(0);
            due.is("a step of one leaves the other", x.same(0, 1), false);
            due.is("the twin's word", x.next(1), word);
            due.is("same(0, 1) again", x.same(0, 1), true);
            x.release(0);
            due.is("twin(1) into the least free slot", x.twin(1), 0);
            due.is("same(1, 0)", x.same(1, 0), true);
        }
    }

    private void twinRefuses() {
        NumberStreams x = new NumberStreams();
        due.is("twin of a free slot", x.twin(0), -1);
        x.make(0, 1, 1);
        for (int slot : NO_SLOTS) {
            due.is("twin(" + slot + ")", x.twin(slot), -1);
        }
        for (int slot = 1; slot < 8; slot++) {
            due.is("twin(0)", x.twin(0), slot);
        }
        due.is("twin(0) when all are taken", x.twin(0), -1);
    }

    private void releaseFreesOnce() {
        NumberStreams x = new NumberStreams();
        x.make(0, 1, 1);
        x.make(1, 1, 1);
        due.is("release(0)", x.release(0), true);
        due.is("release(0) again", x.release(0), false);
        due.is("next(0)", x.next(0), -1);
        due.is("slot 1 stays", x.next(1) >= 0, true);
        for (int slot : NO_SLOTS) {
            due.is("release(" + slot + ")", x.release(slot), false);
        }
        due.is("make after release", x.make(3, 1, 1), 0);
    }

    private void nextRefuses() {
        NumberStreams x = new NumberStreams();
        x.make(0, 1, 1);
        for (int slot : NO_SLOTS) {
            due.is("next(" + slot + ")", x.next(slot), -1);
        }
        due.is("next(1)", x.next(1), -1);
    }

    /** The demonstration words of the well-known PCG32 generator, seed 42 and sequence 54. */
    private void kindZeroWords() {
        long s = 151L * 6364136223846793005L + 109L;
        NumberStreams x = Forge.withRecord(0, (int) (s >>> 32), (int) s, 0, 109);
        due.is("restore(0)", x.restore(0), 1);
        words("kind 0", x, 1, 0xA15C02B7L, 0x7B47F409L, 0xBA1D3330L, 0x83D2F293L, 0xBFA4784BL, 0xCBED606EL);
    }

    /** The known words of xoroshiro64**, seeds 1 and 2; a first state of 0 gives the word 0. */
    private void kindOneWords() {
        NumberStreams x = new NumberStreams();
        x.make(1, 1, 2);
        words("kind 1", x, 0, 3802928447L, 813792938L, 1618621494L, 2955957307L, 3252880261L, 1129983909L,
            2539651700L, 1327610908L, 1757650787L, 2763843748L);
        x.make(1, 0, -1);
        words("kind 1, a = 0", x, 1, 0L);
    }

    /** The known answer of Philox 2x32-10 for key and counter 0, and the end of the counter. */
    private void kindTwoWords() {
        NumberStreams x = new NumberStreams();
        x.make(2, 0, 0);
        words("kind 2", x, 0, 0xFF1DAE59L, 0x6CD10DF2L);

        NumberStreams last = Forge.withRecord(2, 0, 0x7FFFFFFF, -1);
        due.is("restore(0) of the last p", last.restore(0), 1);
        due.is("a twin for the jump", last.twin(1), 2);
        last.next(1);
        last.jump(2, 1);
        last.make(2, 0, 0);
        due.is("after 2^63 - 1 comes 0 by a step", last.same(1, 3), true);
        due.is("after 2^63 - 1 comes 0 by a jump", last.same(2, 3), true);
        words("kind 2 after its end", last, 1, 0xFF1DAE59L, 0x6CD10DF2L);

        NumberStreams far = Forge.withRecord(2, 0, 0x2468ACF1, 0x3579BDF0);
        far.restore(0);
        words("kind 2, a great p", far, 1, 3580964320L, 1477332993L, 56853571L);

        NumberStreams carry = new NumberStreams();
        carry.make(2, 5, -1);
        carry.next(0);
        carry.save(0);
        due.is("p past 32 bits, upper", carry.word(0, 2), 1);
        due.is("p past 32 bits, lower", carry.word(0, 3), 0);
    }

    private void kindThreeWords() {
        NumberStreams x = new NumberStreams();
        x.make(3, 1, 0);
        words("kind 3", x, 0, 2L * 1403580 + 1);
        x.make(3, 0, 1);
        words("kind 3, u = 0", x, 1, 2L * 810728, 2L * (1403580L * 810728 % 2147483647L));
        x.make(3, 2147483646, 2147483646);
        words("kind 3, greatest state", x, 2, 2L * (2147483647L - 1403580 - 810728));
        NumberStreams high = new NumberStreams();
        high.make(3, 2147483646, 0);
        words("kind 3, a word past 31 bits", high, 0, 2L * (2147483647L - 1403580));
    }

    private void jumpIsSteps() {
        for (int kind = 0; kind < 4; kind++) {
            for (int k : new int[] {0, 1, 2, 3, 7, 200}) {
                NumberStreams x = new NumberStreams();
                x.make(kind, 1234567, 7654321);
                x.twin(0);
                due.is("jump(0, " + k + ")", x.jump(0, k), true);
                for (int i = 0; i < k; i++) {
                    x.next(1);
                }
                due.is("kind " + kind + ", " + k + " steps", x.same(0, 1), true);
                due.is("kind " + kind + ", the word after", x.next(0), x.next(1));
            }
            longJumps(kind);
        }
    }

    private void longJumps(int kind) {
        NumberStreams x = new NumberStreams();
        x.make(kind, 77, 78);
        x.twin(0);
        due.is("jump(0, 65535)", x.jump(0, 65535), true);
        due.is("it moved", x.same(0, 1), false);
        x.jump(1, 32768);
        x.jump(1, 32766);
        due.is("not there yet", x.same(0, 1), false);
        x.next(1);
        due.is("there", x.same(0, 1), true);
    }

    private void jumpRefuses() {
        NumberStreams x = new NumberStreams();
        due.is("jump of a free slot", x.jump(0, 0), false);
        x.make(0, 1, 1);
        x.twin(0);
        for (int k : new int[] {-1, 65536, Integer.MIN_VALUE, Integer.MAX_VALUE}) {
            due.is("jump(0, " + k + ")", x.jump(0, k), false);
        }
        due.is("a refused jump moves nothing", x.same(0, 1), true);
        for (int slot : NO_SLOTS) {
            due.is("jump(" + slot + ", 1)", x.jump(slot, 1), false);
        }
    }

    private void sameLooksAtKindAndState() {
        NumberStreams x = new NumberStreams();
        x.make(1, 5, 6);
        x.make(3, 5, 6);
        x.make(1, 5, 7);
        x.make(1, 4, 6);
        x.make(1, 5, 6);
        due.is("same(0, 0)", x.same(0, 0), true);
        due.is("another kind", x.same(0, 1), false);
        due.is("another second part", x.same(0, 2), false);
        due.is("another first part", x.same(0, 3), false);
        due.is("all alike", x.same(0, 4), true);
        due.is("a free slot", x.same(0, 5), false);
        due.is("two free slots", x.same(5, 6), false);
        due.is("the same free slot", x.same(5, 5), false);
        for (int slot : NO_SLOTS) {
            due.is("same(0, " + slot + ")", x.same(0, slot), false);
            due.is("same(" + slot + ", 0)", x.same(slot, 0), false);
            due.is("same(" + slot + ", " + slot + ")", x.same(slot, slot), false);
        }
    }
}
