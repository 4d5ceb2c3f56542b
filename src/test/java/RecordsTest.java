import java.util.Arrays;

/** Promises 9 to 14: records, how they are spoiled, and what a restore thinks of them. */
public final class RecordsTest {
    private static final int[] NO_RECORDS = {-1, 1, 6, 7, Integer.MIN_VALUE, Integer.MAX_VALUE};
    private static final int[] SIZES = {6, 4, 5, 4};

    private final Due due = new Due();

    public static void main(String[] args) {
        RecordsTest test = new RecordsTest();
        test.saveKeepsTheStream();
        test.saveRefuses();
        test.wordsOfEachKind();
        test.noSuchRecordOrWord();
        test.spoilTurnsBits();
        test.cutTakesTheLastWord();
        test.restoreGivesTheStream();
        test.restoreRefusesHeads();
        test.restoreRefusesSizes();
        test.restoreRefusesChecks();
        test.restoreRefusesStates();
        test.restoreTakesEdgeStates();
        test.restoreRefusesInOrder();
        test.due.end();
    }

    private void saveKeepsTheStream() {
        for (int kind = 0; kind < 4; kind++) {
            NumberStreams x = new NumberStreams();
            x.make(kind, 3, 4);
            x.twin(0);
            due.is("save(0)", x.save(0), 0);
            due.is("the stream stays", x.same(0, 1), true);
            int first = x.word(0, 1);
            x.next(0);
            x.jump(0, 100);
            x.release(0);
            due.is("the record does not follow the stream", x.word(0, 1), first);
            due.is("length(0)", x.length(0), SIZES[kind]);
        }
    }

    private void saveRefuses() {
        NumberStreams x = new NumberStreams();
        due.is("save of a free slot", x.save(0), -1);
        x.make(0, 1, 1);
        for (int slot : new int[] {-1, 1, 8, Integer.MIN_VALUE, Integer.MAX_VALUE}) {
            due.is("save(" + slot + ")", x.save(slot), -1);
        }
        for (int record = 0; record < 6; record++) {
            due.is("save(0), record " + record, x.save(0), record);
        }
        due.is("save(0), a seventh", x.save(0), -1);
        for (int i = 0; i < 6; i++) {
            x.cut(0);
        }
        due.is("save(0), a record without words is still there", x.save(0), -1);
        due.is("length(0)", x.length(0), 0);
        due.is("length(5)", x.length(5), 6);
        due.is("length(6)", x.length(6), -1);
    }

    private void wordsOfEachKind() {
        int[][] wanted = {
            {24301824, 0x90000001, 0xA0000002, 0x20000003, 0x40000005, 0},
            {24301825, 0x90000001, 0xA0000002, 0},
            {24301826, 0x90000001, 0, 0xA0000002, 0},
            {24301827, 0x10000001, 0x20000002, 0}};
        for (int kind = 0; kind < 4; kind++) {
            NumberStreams x = new NumberStreams();
            x.make(kind, kind == 3 ? 0x10000001 : 0x90000001, kind == 3 ? 0x20000002 : 0xA0000002);
            x.save(0);
            int last = SIZES[kind] - 1;
            int[] body = Arrays.copyOf(wanted[kind], last);
            for (int i = 0; i < last; i++) {
                due.is("kind " + kind + ": word(0, " + i + ")", x.word(0, i), body[i]);
            }
            due.is("kind " + kind + ": its check", x.word(0, last), Forge.check(body));
            due.is("kind " + kind + ": length(0)", x.length(0), SIZES[kind]);
            due.is("kind " + kind + ": word behind the last", x.word(0, SIZES[kind]), 0);
        }
        NumberStreams x = new NumberStreams();
        x.make(3, 0, 1);
        x.save(0);
        int c = ((31 + 24301827) * 31) * 31 + 1;
        due.is("a check counted by hand", x.word(0, 3), c ^ (c >>> 15));
    }

    private void noSuchRecordOrWord() {
        NumberStreams x = new NumberStreams();
        x.make(1, 5, 6);
        x.save(0);
        for (int record : NO_RECORDS) {
            due.is("length(" + record + ")", x.length(record), -1);
            due.is("word(" + record + ", 0)", x.word(record, 0), 0);
            due.is("spoil(" + record + ", 0, 1)", x.spoil(record, 0, 1), false);
            due.is("cut(" + record + ")", x.cut(record), false);
            due.is("restore(" + record + ")", x.restore(record), -1);
        }
        for (int i : new int[] {-1, 4, 5, 6, Integer.MIN_VALUE, Integer.MAX_VALUE}) {
            due.is("word(0, " + i + ")", x.word(0, i), 0);
            due.is("spoil(0, " + i + ", 1)", x.spoil(0, i, 1), false);
        }
        due.is("restore(0) after all that", x.restore(0), 1);
        due.is("same(0, 1)", x.same(0, 1), true);
    }

    private void spoilTurnsBits() {
        NumberStreams x = new NumberStreams();
        x.make(1, 5, 6);
        x.save(0);
        x.save(0);
        due.is("spoil(0, 1, -1)", x.spoil(0, 1, -1), true);
        due.is("word(0, 1)", x.word(0, 1), ~5);
        due.is("word(0, 2)", x.word(0, 2), 6);
        due.is("word(1, 1), of another record", x.word(1, 1), 5);
        due.is("spoil(0, 1, 0)", x.spoil(0, 1, 0), true);
        due.is("word(0, 1) still", x.word(0, 1), ~5);
        due.is("spoil(0, 1, -1) back", x.spoil(0, 1, -1), true);
        due.is("restore(0)", x.restore(0), 1);
        due.is("spoil of the last word", x.spoil(0, 3, 1), true);
        due.is("restore(0)", x.restore(0), -4);
    }

    private void cutTakesTheLastWord() {
        for (int kind = 0; kind < 4; kind++) {
            NumberStreams x = new NumberStreams();
            x.make(kind, 5, 6);
            x.save(0);
            for (int left = SIZES[kind] - 1; left >= 0; left--) {
                due.is("cut(0)", x.cut(0), true);
                due.is("length(0)", x.length(0), left);
                due.is("word(0, left)", x.word(0, left), 0);
                due.is("spoil(0, left, 1)", x.spoil(0, left, 1), false);
                due.is("word(0, 0)", x.word(0, 0), left == 0 ? 0 : 24301824 + kind);
                due.is("restore(0)", x.restore(0), left == 0 ? -2 : -3);
            }
            due.is("cut(0) without a word", x.cut(0), false);
            due.is("length(0)", x.length(0), 0);
        }
    }

    private void restoreGivesTheStream() {
        for (int kind = 0; kind < 4; kind++) {
            NumberStreams x = new NumberStreams();
            x.make(kind, 123456789, 987654321);
            x.jump(0, 1000);
            x.save(0);
            x.make(0, 1, 1);
            x.twin(0);
            x.release(1);
            due.is("restore(0) into the least free slot", x.restore(0), 1);
            due.is("same(0, 1)", x.same(0, 1), true);
            x.next(0);
            due.is("restore(0) a second time", x.restore(0), 3);
            due.is("the record still holds the first state", x.same(2, 3), true);
            x.next(3);
            due.is("restored streams go on alike", x.same(0, 3), true);
            due.is("restored streams are apart", x.same(1, 2), true);
            x.release(0);
            due.is("restore(0) into slot 0", x.restore(0), 0);
        }
    }

    private void restoreRefusesHeads() {
        for (int head : new int[] {24301823, 24301828, 0, -1, 24301824 + Integer.MIN_VALUE}) {
            NumberStreams x = new NumberStreams();
            x.make(1, 5, 6);
            x.save(0);
            Forge.write(x, 0, head, 5, 6);
            due.is("restore of head " + head, x.restore(0), -2);
            due.is("nothing is made", x.next(1), -1);
        }
    }

    private void restoreRefusesSizes() {
        for (int kind = 0; kind < 4; kind++) {
            for (int told = 0; told < 4; told++) {
                NumberStreams x = new NumberStreams();
                x.make(kind, 5, 7);
                x.save(0);
                int[] words = new int[SIZES[kind] - 1];
                for (int i = 0; i < words.length; i++) {
                    words[i] = i == 0 ? 24301824 + told : 9;
                }
                Forge.write(x, 0, words);
                due.is("kind " + kind + " told as " + told, x.restore(0), SIZES[kind] == SIZES[told] ? 1 : -3);
            }
        }
    }

    private void restoreRefusesChecks() {
        for (int kind = 0; kind < 4; kind++) {
            for (int i = 1; i < SIZES[kind]; i++) {
                for (int bit : new int[] {0, 15, 31}) {
                    NumberStreams x = new NumberStreams();
                    x.make(kind, 5, 6);
                    x.save(0);
                    x.spoil(0, i, 1 << bit);
                    due.is("kind " + kind + ", word " + i + ", bit " + bit, x.restore(0), -4);
                }
            }
        }
    }

    private void restoreRefusesStates() {
        int least = Integer.MIN_VALUE;
        due.is("kind 0, c = 0", Forge.withRecord(0, 1, 1, 0, 0).restore(0), -5);
        due.is("kind 0, c = 2^32", Forge.withRecord(0, 1, 1, 1, 0).restore(0), -5);
        due.is("kind 0, c = -2", Forge.withRecord(0, 1, 1, -1, -2).restore(0), -5);
        due.is("kind 1, 0 and 0", Forge.withRecord(1, 0, 0).restore(0), -5);
        due.is("kind 2, p = -1", Forge.withRecord(2, 1, -1, -1).restore(0), -5);
        due.is("kind 2, p = -2^63", Forge.withRecord(2, 1, least, 0).restore(0), -5);
        due.is("kind 3, 0 and 0", Forge.withRecord(3, 0, 0).restore(0), -5);
        due.is("kind 3, u = 2147483647", Forge.withRecord(3, 2147483647, 1).restore(0), -5);
        due.is("kind 3, v = 2147483647", Forge.withRecord(3, 1, 2147483647).restore(0), -5);
        due.is("kind 3, u = -1", Forge.withRecord(3, -1, 1).restore(0), -5);
        due.is("kind 3, v = -1", Forge.withRecord(3, 1, -1).restore(0), -5);
        due.is("kind 3, v = -2^31", Forge.withRecord(3, 1, least).restore(0), -5);
    }

    private void restoreTakesEdgeStates() {
        int most = Integer.MAX_VALUE;
        due.is("kind 0, s = 0, c = 1", Forge.withRecord(0, 0, 0, 0, 1).restore(0), 1);
        due.is("kind 0, c = -1", Forge.withRecord(0, 1, 1, -1, -1).restore(0), 1);
        due.is("kind 1, 0 and 1", Forge.withRecord(1, 0, 1).restore(0), 1);
        due.is("kind 1, -1 and 0", Forge.withRecord(1, -1, 0).restore(0), 1);
        due.is("kind 2, p = 0", Forge.withRecord(2, 0, 0, 0).restore(0), 1);
        due.is("kind 2, p = 2^63 - 1", Forge.withRecord(2, 0, most, -1).restore(0), 1);
        due.is("kind 3, 0 and 1", Forge.withRecord(3, 0, 1).restore(0), 1);
        due.is("kind 3, 1 and 0", Forge.withRecord(3, 1, 0).restore(0), 1);
        due.is("kind 3, greatest", Forge.withRecord(3, most - 1, most - 1).restore(0), 1);

        NumberStreams x = Forge.withRecord(2, -9, 0x12345678, 0x9ABCDEF0);
        x.restore(0);
        x.save(1);
        for (int i = 0; i < 5; i++) {
            due.is("saved again, word " + i, x.word(1, i), x.word(0, i));
        }
        NumberStreams y = Forge.withRecord(0, -9, 0x92345678, 0x82345678, 0x9ABCDEF1);
        y.restore(0);
        y.save(1);
        for (int i = 0; i < 6; i++) {
            due.is("saved again, word " + i, y.word(1, i), y.word(0, i));
        }
    }

    private void restoreRefusesInOrder() {
        NumberStreams x = Forge.withRecord(1, 0, 0);
        for (int slot = 1; slot < 8; slot++) {
            x.twin(0);
        }
        x.save(0);
        due.is("a whole record, no free slot", x.restore(1), -6);
        due.is("a bad state comes before no free slot", x.restore(0), -5);
        x.spoil(0, 3, 1);
        due.is("a bad check comes before a bad state", x.restore(0), -4);
        x.cut(0);
        due.is("a bad size comes before a bad check", x.restore(0), -3);
        x.spoil(0, 0, 64);
        due.is("a bad head comes before a bad size", x.restore(0), -2);
        due.is("no record comes before no free slot", x.restore(2), -1);
        x.release(7);
        due.is("restore(1) when a slot is free", x.restore(1), 7);
    }
}
