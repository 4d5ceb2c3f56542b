import java.util.Arrays;

/** The edges of records, of the check, and of promises 9 to 14. */
public final class RecordEdgesTest {
    private static final int LEAST = Integer.MIN_VALUE;
    private static final int MOST = Integer.MAX_VALUE;
    private static final int HEAD = 24301824;
    private static final int[] SIZES = {6, 4, 5, 4};
    private static final int[] NO_SLOTS = {-1, -8, 8, 9, 16, 256, 65537, LEAST, MOST};
    /** Numbers that are never a record. */
    private static final int[] NO_RECORDS = {-1, -6, 6, 7, 256, 65536, LEAST, MOST};

    /** Counted apart from this program. In the first row every c has its upper bit set. */
    private static final int[] CHECKS = {0x8AB21A91, 0x9CF50760, 0xDF705A36, 0x9CF57FE2};
    private static final int[] GREAT_CHECKS = {0x7B5647F2, 0x7003E906, 0x105EABE3, 0x7003F064};

    private final Due due = new Due();

    public static void main(String[] args) {
        RecordEdgesTest test = new RecordEdgesTest();
        test.theWordsOfARecord();
        test.theCheckWraps();
        test.saveCountsUpToSix();
        test.saveRefusesASeventh();
        test.saveKeepsTheStream();
        test.saveIsNotMovedByTheStream();
        test.saveRefusesSlots();
        test.lengthOfEachKind();
        test.lengthRefusesRecords();
        test.wordRefusesRecords();
        test.wordRefusesWords();
        test.spoilOfEachWord();
        test.spoilWithEdgeMasks();
        test.spoilRefusesRecords();
        test.spoilRefusesWords();
        test.cutDownToNothing();
        test.cutTakesTheLastWordOnly();
        test.cutRefusesAnEmptyRecord();
        test.cutRefusesRecords();
        test.restoreTakesTheLeastFreeSlot();
        test.restoreLeavesTheRecord();
        test.restoreRefusesRecords();
        test.restoreRefusesAnEmptyRecord();
        test.restoreRefusesHeads();
        test.restoreTakesEachHead();
        test.restoreRefusesTooFewWords();
        test.restoreRefusesTooManyWords();
        test.restoreOfARecordCutToAnotherKind();
        test.restoreRefusesEachFalseWord();
        test.restoreRefusesStates();
        test.restoreRefusesWhenFull();
        test.restoreTestsInOrder();
        test.restoreTestsInOrderForEachKind();
        test.due.end();
    }

    private static NumberStreams saved(int kind) {
        NumberStreams x = new NumberStreams();
        x.make(kind, 5, 6);
        x.save(0);
        return x;
    }

    private static NumberStreams fullSaved(int kind) {
        NumberStreams x = saved(kind);
        for (int slot = 1; slot < 8; slot++) {
            x.twin(0);
        }
        return x;
    }

    private static void cut(NumberStreams x, int record, int times) {
        for (int i = 0; i < times; i++) {
            x.cut(record);
        }
    }

    private void record(String told, NumberStreams x, int record, int... words) {
        due.is(told + ", length", x.length(record), words.length);
        for (int i = 0; i < words.length; i++) {
            due.is(told + ", word " + i, x.word(record, i), words[i]);
        }
    }

    private void theWordsOfARecord() {
        due.sentence("RECORDS .. hold words: first 24301824 + kind; then the state; last the CHECK");
        int[][] records = {
            {24301824, 0x81234567, 0x89ABCDEF, 0x02468ACF, 0x13579BDF, CHECKS[0]},
            {24301825, 0x81234567, 0x89ABCDEF, CHECKS[1]},
            {24301826, 0x81234567, 0, 0x89ABCDEF, CHECKS[2]},
            {24301827, 0x01234567, 0x09ABCDEF, CHECKS[3]}};
        for (int kind = 0; kind < 4; kind++) {
            NumberStreams x = new NumberStreams();
            x.make(kind, kind == 3 ? 0x01234567 : 0x81234567, kind == 3 ? 0x09ABCDEF : 0x89ABCDEF);
            x.save(0);
            record("kind " + kind, x, 0, records[kind]);
        }
    }

    private void theCheckWraps() {
        due.sentence("the CHECK: c ^ (c >>> 15), where c is 1 at first and becomes 31 * c + w for each word w before it");
        int[][] states = {{-1, -1, -1, -1}, {-1, -1}, {-1, MOST, -1}, {MOST - 1, MOST - 1}};
        for (int kind = 0; kind < 4; kind++) {
            NumberStreams x = Forge.withRecord(kind, states[kind]);
            due.is("kind " + kind + " is restored", x.restore(0), 1);
            x.save(1);
            due.is("kind " + kind + ", the check of its greatest words", x.word(1, SIZES[kind] - 1), GREAT_CHECKS[kind]);
        }
    }

    private void saveCountsUpToSix() {
        due.sentence("Promise 9: Makes a record of a stream .. Answers the record");
        NumberStreams x = new NumberStreams();
        for (int slot = 0; slot < 6; slot++) {
            x.make(slot % 4, slot + 1, slot + 1);
        }
        for (int record = 0; record < 6; record++) {
            due.is("save(" + record + ")", x.save(record), record);
            due.is("length(" + record + ")", x.length(record), SIZES[record % 4]);
            due.is("length(" + (record + 1) + ")", x.length(record + 1), -1);
        }
        for (int record = 0; record < 6; record++) {
            due.is("word(" + record + ", 0)", x.word(record, 0), HEAD + record % 4);
        }
    }

    private void saveRefusesASeventh() {
        due.sentence("Promise 9: -1 when .. 6 records are there");
        NumberStreams x = saved(1);
        for (int record = 1; record < 6; record++) {
            due.is("save(0)", x.save(0), record);
        }
        due.is("a seventh save(0)", x.save(0), -1);
        due.is("an eighth save(0)", x.save(0), -1);
        due.is("neither a stream nor room: save(7)", x.save(7), -1);
        due.is("length(6)", x.length(6), -1);
        for (int record = 0; record < 6; record++) {
            cut(x, record, 4);
        }
        due.is("save(0) when all records are without words", x.save(0), -1);
        due.is("length(5)", x.length(5), 0);
    }

    private void saveKeepsTheStream() {
        due.sentence("Promise 9: the stream stays");
        for (int kind = 0; kind < 4; kind++) {
            NumberStreams x = new NumberStreams();
            x.make(kind, 5, 6);
            x.twin(0);
            x.save(0);
            due.is("kind " + kind + ": same(0, 1)", x.same(0, 1), true);
            due.is("kind " + kind + ": next(0)", x.next(0), x.next(1));
        }
    }

    private void saveIsNotMovedByTheStream() {
        due.sentence("Promise 9: Makes a record of a stream: as it is now");
        for (int kind = 0; kind < 4; kind++) {
            NumberStreams x = saved(kind);
            NumberStreams y = saved(kind);
            x.next(0);
            x.jump(0, 9);
            x.save(0);
            x.release(0);
            for (int i = 0; i < 6; i++) {
                due.is("kind " + kind + ": word(0, " + i + ")", x.word(0, i), y.word(0, i));
            }
            due.is("restore(0) without any stream left", x.restore(0), 0);
            due.is("restore(1)", x.restore(1), 1);
            x.jump(0, 10);
            due.is("kind " + kind + ": ten steps lie between them", x.same(0, 1), true);
        }
    }

    private void saveRefusesSlots() {
        due.sentence("Promise 9: -1 when slot holds no stream");
        NumberStreams x = saved(1);
        for (int slot : NO_SLOTS) {
            due.is("save(" + slot + ")", x.save(slot), -1);
        }
        for (int slot = 1; slot < 8; slot++) {
            due.is("save(" + slot + ")", x.save(slot), -1);
        }
        due.is("length(1)", x.length(1), -1);
        due.is("save(0)", x.save(0), 1);
    }

    private void lengthOfEachKind() {
        due.sentence("Promise 10: How many words a record has");
        for (int kind = 0; kind < 4; kind++) {
            due.is("kind " + kind, saved(kind).length(0), SIZES[kind]);
        }
    }

    private void lengthRefusesRecords() {
        due.sentence("Promise 10: -1 when there is no such record");
        NumberStreams x = saved(0);
        for (int record : NO_RECORDS) {
            due.is("length(" + record + ")", x.length(record), -1);
        }
        for (int record = 1; record < 6; record++) {
            due.is("length(" + record + ")", x.length(record), -1);
        }
        cut(x, 0, 6);
        due.is("a record without words is there", x.length(0), 0);
    }

    private void wordRefusesRecords() {
        due.sentence("Promise 11: 0 when there is no such record");
        NumberStreams x = saved(0);
        for (int record : NO_RECORDS) {
            due.is("word(" + record + ", 0)", x.word(record, 0), 0);
            due.is("neither record nor word: word(" + record + ", -1)", x.word(record, -1), 0);
        }
        for (int record = 1; record < 6; record++) {
            due.is("word(" + record + ", 0)", x.word(record, 0), 0);
        }
    }

    private void wordRefusesWords() {
        due.sentence("Promise 11: 0 when there is no such .. word");
        for (int kind = 0; kind < 4; kind++) {
            NumberStreams x = saved(kind);
            for (int i : new int[] {-1, SIZES[kind], SIZES[kind] + 1, 6, 7, 256, 65536, LEAST, MOST}) {
                due.is("kind " + kind + ": word(0, " + i + ")", x.word(0, i), 0);
            }
            due.is("kind " + kind + ": the last word is not 0", x.word(0, SIZES[kind] - 1) != 0, true);
            x.cut(0);
            due.is("kind " + kind + ": a word that was cut", x.word(0, SIZES[kind] - 1), 0);
            cut(x, 0, 6);
            due.is("kind " + kind + ": word(0, 0) of no words", x.word(0, 0), 0);
        }
    }

    private void spoilOfEachWord() {
        due.sentence("Promise 12: Word i of a record becomes itself ^ mask, and true");
        for (int kind = 0; kind < 4; kind++) {
            for (int i = 0; i < SIZES[kind]; i++) {
                NumberStreams x = saved(kind);
                NumberStreams y = saved(kind);
                x.save(0);
                due.is("spoil(0, " + i + ", mask)", x.spoil(0, i, 0x80000101), true);
                for (int j = 0; j < 6; j++) {
                    int wanted = j == i ? y.word(0, j) ^ 0x80000101 : y.word(0, j);
                    due.is("kind " + kind + ", word(0, " + j + ")", x.word(0, j), wanted);
                    due.is("kind " + kind + ", the other record, word(1, " + j + ")", x.word(1, j), y.word(0, j));
                }
            }
        }
    }

    private void spoilWithEdgeMasks() {
        due.sentence("Promise 12: becomes itself ^ mask: masks at their edges");
        NumberStreams x = saved(1);
        due.is("spoil(0, 1, 0)", x.spoil(0, 1, 0), true);
        due.is("word(0, 1)", x.word(0, 1), 5);
        due.is("restore(0)", x.restore(0), 1);
        due.is("spoil(0, 1, -1)", x.spoil(0, 1, -1), true);
        due.is("word(0, 1)", x.word(0, 1), -6);
        due.is("restore(0)", x.restore(0), -4);
        due.is("spoil(0, 1, -1) again", x.spoil(0, 1, -1), true);
        due.is("restore(0)", x.restore(0), 2);
        due.is("spoil(0, 1, 5)", x.spoil(0, 1, 5), true);
        due.is("word(0, 1) is 0 and yet a word", x.word(0, 1), 0);
        due.is("length(0)", x.length(0), 4);
        due.is("spoil(0, 2, -2^31)", x.spoil(0, 2, LEAST), true);
        due.is("word(0, 2)", x.word(0, 2), LEAST + 6);
    }

    private void spoilRefusesRecords() {
        due.sentence("Promise 12: false when there is no such record");
        NumberStreams x = saved(0);
        for (int record : NO_RECORDS) {
            due.is("spoil(" + record + ", 0, 1)", x.spoil(record, 0, 1), false);
            due.is("spoil(" + record + ", 0, 0)", x.spoil(record, 0, 0), false);
            due.is("neither record nor word: spoil(" + record + ", 9, 1)", x.spoil(record, 9, 1), false);
        }
        for (int record = 1; record < 6; record++) {
            due.is("spoil(" + record + ", 0, 1)", x.spoil(record, 0, 1), false);
        }
    }

    private void spoilRefusesWords() {
        due.sentence("Promise 12: false when there is no such .. word");
        for (int kind = 0; kind < 4; kind++) {
            NumberStreams x = saved(kind);
            for (int i : new int[] {-1, SIZES[kind], SIZES[kind] + 1, 6, 7, 256, 65536, LEAST, MOST}) {
                due.is("kind " + kind + ": spoil(0, " + i + ", 1)", x.spoil(0, i, 1), false);
                due.is("kind " + kind + ": length(0)", x.length(0), SIZES[kind]);
            }
            due.is("kind " + kind + " is restored", x.restore(0), 1);
            x.cut(0);
            due.is("kind " + kind + ": a word that was cut", x.spoil(0, SIZES[kind] - 1, 1), false);
            cut(x, 0, 6);
            due.is("kind " + kind + ": spoil(0, 0, 1) of no words", x.spoil(0, 0, 1), false);
        }
    }

    private void cutDownToNothing() {
        due.sentence("Promise 13: Takes the last word of a record away, and true");
        for (int kind = 0; kind < 4; kind++) {
            NumberStreams x = saved(kind);
            NumberStreams y = saved(kind);
            for (int left = SIZES[kind] - 1; left >= 0; left--) {
                due.is("kind " + kind + ": cut(0)", x.cut(0), true);
                due.is("kind " + kind + ": length(0)", x.length(0), left);
                for (int i = 0; i < 6; i++) {
                    due.is("kind " + kind + ": word(0, " + i + ")", x.word(0, i), i < left ? y.word(0, i) : 0);
                }
            }
        }
    }

    private void cutTakesTheLastWordOnly() {
        due.sentence("Promise 13: of a record (and of no other)");
        NumberStreams x = saved(0);
        x.save(0);
        x.save(0);
        x.cut(1);
        due.is("length(0)", x.length(0), 6);
        due.is("length(1)", x.length(1), 5);
        due.is("length(2)", x.length(2), 6);
        due.is("restore(0)", x.restore(0), 1);
        due.is("restore(2)", x.restore(2), 2);
    }

    private void cutRefusesAnEmptyRecord() {
        due.sentence("Promise 13: false when .. it has no word");
        for (int kind = 0; kind < 4; kind++) {
            NumberStreams x = saved(kind);
            cut(x, 0, SIZES[kind]);
            due.is("kind " + kind + ": cut(0)", x.cut(0), false);
            due.is("kind " + kind + ": cut(0) again", x.cut(0), false);
            due.is("kind " + kind + ": length(0)", x.length(0), 0);
            due.is("kind " + kind + ": the next save", x.save(0), 1);
            due.is("kind " + kind + ": length(1)", x.length(1), SIZES[kind]);
            due.is("kind " + kind + ": length(0) still", x.length(0), 0);
        }
    }

    private void cutRefusesRecords() {
        due.sentence("Promise 13: false when there is no such record");
        NumberStreams x = saved(0);
        for (int record : NO_RECORDS) {
            due.is("cut(" + record + ")", x.cut(record), false);
        }
        for (int record = 1; record < 6; record++) {
            due.is("cut(" + record + ")", x.cut(record), false);
        }
        due.is("length(0)", x.length(0), 6);
    }

    private void restoreTakesTheLeastFreeSlot() {
        due.sentence("Promise 14: Makes the stream that a record holds in the least free slot and answers the slot");
        for (int kind = 0; kind < 4; kind++) {
            for (int gap = 0; gap < 8; gap++) {
                NumberStreams x = fullSaved(kind);
                x.release(7);
                x.release(gap);
                due.is("kind " + kind + ": restore(0) into the gap " + gap, x.restore(0), gap);
                due.is("kind " + kind + ": it is the same stream", x.same(gap, gap == 0 ? 1 : 0), true);
            }
        }
    }

    private void restoreLeavesTheRecord() {
        due.sentence("Promise 14: Makes the stream that a record holds: again and again");
        for (int kind = 0; kind < 4; kind++) {
            NumberStreams x = saved(kind);
            NumberStreams y = saved(kind);
            long word = y.next(0);
            for (int slot = 1; slot < 8; slot++) {
                due.is("kind " + kind + ": restore(0)", x.restore(0), slot);
                due.is("kind " + kind + ": same(0, " + slot + ")", x.same(0, slot), true);
                due.is("kind " + kind + ": next(" + slot + ")", x.next(slot), word);
            }
            for (int i = 0; i < 6; i++) {
                due.is("kind " + kind + ": word(0, " + i + ") after all that", x.word(0, i), y.word(0, i));
            }
        }
    }

    private void restoreRefusesRecords() {
        due.sentence("Promise 14: -1 when there is no such record");
        NumberStreams x = saved(0);
        for (int record : NO_RECORDS) {
            due.is("restore(" + record + ")", x.restore(record), -1);
        }
        for (int record = 1; record < 6; record++) {
            due.is("restore(" + record + ")", x.restore(record), -1);
        }
    }

    private void restoreRefusesAnEmptyRecord() {
        due.sentence("Promise 14: -2 when it has no word");
        for (int kind = 0; kind < 4; kind++) {
            NumberStreams x = saved(kind);
            cut(x, 0, SIZES[kind] - 1);
            due.is("kind " + kind + ", one word", x.restore(0), -3);
            x.cut(0);
            due.is("kind " + kind + ", no word", x.restore(0), -2);
        }
    }

    private void restoreRefusesHeads() {
        due.sentence("Promise 14: -2 when .. its first word is none of 24301824 .. 24301827");
        for (int kind = 0; kind < 4; kind++) {
            for (int head : new int[] {HEAD - 1, HEAD + 4, HEAD + 5, 0, -1, -HEAD, HEAD + LEAST, HEAD ^ 0x10000, LEAST, MOST}) {
                NumberStreams x = saved(kind);
                int[] words = new int[SIZES[kind] - 1];
                for (int i = 0; i < words.length; i++) {
                    words[i] = i == 0 ? head : x.word(0, i);
                }
                Forge.write(x, 0, words);
                due.is("kind " + kind + ", a right check, head " + head, x.restore(0), -2);
                x.spoil(0, words.length, 1);
                due.is("kind " + kind + ", a false check, head " + head, x.restore(0), -2);
            }
        }
    }

    private void restoreTakesEachHead() {
        due.sentence("Promise 14: first word .. 24301824 .. 24301827");
        for (int kind = 0; kind < 4; kind++) {
            due.is("kind " + kind, saved(kind).restore(0), 1);
        }
        NumberStreams x = saved(1);
        Forge.write(x, 0, HEAD + 3, 5, 6);
        due.is("kind 1 told as kind 3", x.restore(0), 1);
        x.make(3, 5, 6);
        due.is("it is of kind 3", x.same(1, 2), true);
        NumberStreams y = saved(3);
        Forge.write(y, 0, HEAD + 1, -5, LEAST);
        due.is("kind 3 told as kind 1", y.restore(0), 1);
        y.make(1, -5, LEAST);
        due.is("it is of kind 1", y.same(1, 2), true);
    }

    private void restoreRefusesTooFewWords() {
        due.sentence("Promise 14: -3 when it has not exactly the number of words of a record of that kind: too few");
        for (int kind = 0; kind < 4; kind++) {
            NumberStreams x = saved(kind);
            for (int left = SIZES[kind] - 1; left >= 1; left--) {
                x.cut(0);
                due.is("kind " + kind + ", " + left + " words", x.restore(0), -3);
            }
        }
        NumberStreams x = saved(1);
        Forge.write(x, 0, HEAD, 5, 7);
        due.is("four words told as kind 0, a right check", x.restore(0), -3);
        Forge.write(x, 0, HEAD + 2, 5, 7);
        due.is("four words told as kind 2, a right check", x.restore(0), -3);
        NumberStreams y = saved(2);
        Forge.write(y, 0, HEAD, 5, 6, 7);
        due.is("five words told as kind 0, a right check", y.restore(0), -3);
    }

    private void restoreRefusesTooManyWords() {
        due.sentence("Promise 14: -3 when it has not exactly the number of words of a record of that kind: too many");
        for (int kind = 1; kind < 4; kind++) {
            NumberStreams x = saved(0);
            Forge.write(x, 0, HEAD + kind, 5, 6, 7, 9);
            due.is("six words told as kind " + kind + ", a right check at their end", x.restore(0), -3);
        }
        for (int kind : new int[] {1, 3}) {
            NumberStreams x = saved(2);
            Forge.write(x, 0, HEAD + kind, 5, 6, 7);
            due.is("five words told as kind " + kind + ", a right check at their end", x.restore(0), -3);
            NumberStreams y = saved(2);
            Forge.writeState(y, 0, kind, 5, 6);
            due.is("five words told as kind " + kind + ", a right check before their end", y.restore(0), -3);
        }
        NumberStreams z = saved(0);
        Forge.writeState(z, 0, 2, 5, 6, 7);
        due.is("six words told as kind 2, a right check before their end", z.restore(0), -3);
    }

    private void restoreOfARecordCutToAnotherKind() {
        due.sentence("Promise 14: exactly the number of words of a record of that kind: after a cut");
        NumberStreams x = saved(0);
        x.cut(0);
        Forge.writeState(x, 0, 2, 5, 0, 6);
        due.is("kind 0 cut to a record of kind 2", x.restore(0), 1);
        x.make(2, 5, 6);
        due.is("it is that stream", x.same(1, 2), true);
        x.cut(0);
        Forge.writeState(x, 0, 3, 5, 6);
        due.is("cut to a record of kind 3", x.restore(0), 3);
        x.make(3, 5, 6);
        due.is("it is that stream", x.same(3, 4), true);
        Forge.writeState(x, 0, 1, 5, 6);
        due.is("told as kind 1", x.restore(0), 5);
        x.make(1, 5, 6);
        due.is("it is that stream", x.same(5, 6), true);
    }

    private void restoreRefusesEachFalseWord() {
        due.sentence("Promise 14: -4 when its last word is not the CHECK");
        for (int kind = 0; kind < 4; kind++) {
            for (int i = 1; i < SIZES[kind]; i++) {
                for (int bit = 0; bit < 32; bit++) {
                    NumberStreams x = saved(kind);
                    x.spoil(0, i, 1 << bit);
                    due.is("kind " + kind + ", word " + i + ", bit " + bit, x.restore(0), -4);
                    x.spoil(0, i, 1 << bit);
                    due.is("kind " + kind + ", word " + i + ", bit " + bit + " turned back", x.restore(0), 1);
                }
            }
        }
        NumberStreams x = saved(1);
        x.spoil(0, 0, 2);
        due.is("another head of the same size without its check", x.restore(0), -4);
    }

    private void restoreRefusesStates() {
        due.sentence("Promise 14: -5 when the state is none of that kind (.. for kind 0: c is even)");
        int[][] none = {{0, 0, 0, 0, 0}, {0, 5, 6, 7, 8}, {1, 0, 0}, {2, 0, LEAST, 0}, {2, 5, -1, -1}, {3, 0, 0},
            {3, MOST, 0}, {3, 0, MOST}, {3, LEAST, 5}, {3, 5, -1}};
        for (int[] told : none) {
            int[] state = Arrays.copyOfRange(told, 1, told.length);
            NumberStreams x = Forge.withRecord(told[0], state);
            due.is("kind " + told[0] + ", state " + Arrays.toString(state), x.restore(0), -5);
            due.is("no stream is made", x.next(1), -1);
            due.is("the record stays", x.length(0), state.length + 2);
        }
    }

    private void restoreRefusesWhenFull() {
        due.sentence("Promise 14: -6 when no slot is free");
        for (int kind = 0; kind < 4; kind++) {
            NumberStreams x = fullSaved(kind);
            due.is("kind " + kind + ": restore(0)", x.restore(0), -6);
            x.release(3);
            due.is("kind " + kind + ": restore(0) when slot 3 is free", x.restore(0), 3);
            due.is("kind " + kind + ": restore(0) when it is taken", x.restore(0), -6);
        }
    }

    private void restoreTestsInOrder() {
        due.sentence("refusals are tested in the order in which they are named: restore");
        NumberStreams x = fullSaved(3);
        due.is("no record, no slot", x.restore(1), -1);
        due.is("no record, no slot", x.restore(-1), -1);
        Forge.writeState(x, 0, 3, 0, 0);
        due.is("no state, no slot", x.restore(0), -5);
        x.spoil(0, 3, 1);
        due.is("no check, no state, no slot", x.restore(0), -4);
        x.spoil(0, 0, 1);
        due.is("no size, no check, no state, no slot", x.restore(0), -3);
        x.spoil(0, 0, 64);
        due.is("no head, no size, no check, no state, no slot", x.restore(0), -2);
        cut(x, 0, 4);
        due.is("no word, no slot", x.restore(0), -2);
        x.release(0);
        due.is("no word", x.restore(0), -2);
        due.is("no record", x.restore(1), -1);
    }

    private void restoreTestsInOrderForEachKind() {
        due.sentence("refusals are tested in the order in which they are named: restore, each pair");
        int[][] none = {{5, 6, 7, 8}, {0, 0}, {5, -1, -1}, {-1, 5}};
        for (int kind = 0; kind < 4; kind++) {
            NumberStreams x = fullSaved(kind);
            x.save(0);
            x.spoil(1, 0, 64);
            due.is("kind " + kind + ": no head, no check, no slot", x.restore(1), -2);
            x.spoil(1, 0, 64);
            x.spoil(1, 1, 1);
            due.is("kind " + kind + ": no check, no slot", x.restore(1), -4);
            x.cut(1);
            due.is("kind " + kind + ": no size, no check, no slot", x.restore(1), -3);
            Forge.writeState(x, 0, kind, none[kind]);
            due.is("kind " + kind + ": no state, no slot", x.restore(0), -5);
            x.release(7);
            due.is("kind " + kind + ": no state", x.restore(0), -5);
            x.spoil(0, SIZES[kind] - 1, LEAST);
            due.is("kind " + kind + ": no check, no state", x.restore(0), -4);
            x.cut(0);
            due.is("kind " + kind + ": no size, no state", x.restore(0), -3);
            x.spoil(0, 0, LEAST);
            due.is("kind " + kind + ": no head, no size, no state", x.restore(0), -2);
        }
    }
}
