import java.util.List;

/**
 * 'A call that is refused changes nothing', and no more does a question: each such call is made on one of two objects
 * that were called alike, and then all that can be seen of both is held side by side.
 */
public final class RefusalsTest {
    private static final int LEAST = Integer.MIN_VALUE;
    private static final int MOST = Integer.MAX_VALUE;
    private static final int[] FAR = {-1, 8, 16, LEAST, MOST};

    private interface Maker {
        NumberStreams made();
    }

    private interface Call {
        long on(NumberStreams x);
    }

    private final Due due = new Due();
    private Maker maker = RefusalsTest::anew;
    private String state = "";

    public static void main(String[] args) {
        RefusalsTest test = new RefusalsTest();
        test.twoAlikeAreSeenAlike();
        test.maker = RefusalsTest::anew;
        test.state = "a new object: ";
        test.refusalsOfEveryState();
        test.refusalsOfANewObject();
        test.maker = RefusalsTest::inUse;
        test.state = "an object in use: ";
        test.refusalsOfEveryState();
        test.refusalsInUse();
        test.questionsInUse();
        test.callsWithoutEffect();
        test.maker = RefusalsTest::full;
        test.state = "a full object: ";
        test.refusalsOfEveryState();
        test.refusalsWhenFull();
        test.due.end();
    }

    private static NumberStreams anew() {
        return new NumberStreams();
    }

    /** Slots 0, 2, 3, 4 and 6 hold streams; record 0 is whole, 1 without its check, 2 empty, 3 of a state that is none. */
    private static NumberStreams inUse() {
        NumberStreams x = new NumberStreams();
        for (int kind = 0; kind < 4; kind++) {
            x.make(kind, 50 + kind, 60 + kind);
            x.jump(kind, 3);
        }
        x.twin(1);
        x.twin(0);
        x.make(2, -1, -1);
        x.release(1);
        x.release(5);
        x.save(0);
        x.save(2);
        x.save(3);
        x.save(4);
        x.cut(1);
        for (int i = 0; i < 4; i++) {
            x.cut(2);
        }
        Forge.writeState(x, 3, 1, 0, 0);
        weighAll(x);
        x.shuffle(3);
        x.seek(99);
        return x;
    }

    /** Every slot holds a stream, there are six records, the index is the last. */
    private static NumberStreams full() {
        NumberStreams x = new NumberStreams();
        for (int slot = 0; slot < 8; slot++) {
            x.make(slot % 4, 70 + slot, 80 + slot);
        }
        for (int record = 0; record < 6; record++) {
            x.save(record);
        }
        x.cut(4);
        x.spoil(5, 1, 1);
        weighAll(x);
        x.shuffle(7);
        x.seek(1048575);
        return x;
    }

    private static void weighAll(NumberStreams x) {
        for (int outcome = 0; outcome < 16; outcome++) {
            x.weigh(outcome, 7 * outcome % 11);
        }
    }

    private static long told(boolean answer) {
        return answer ? 1 : 0;
    }

    /** The call answers what is due and leaves no trace. */
    private void leaves(String call, long want, Call made) {
        NumberStreams x = maker.made();
        due.is(state + call, made.on(x), want);
        List<String> wanted = View.of(maker.made());
        List<String> seen = View.of(x);
        for (int i = 0; i < wanted.size(); i++) {
            boolean alike = seen.get(i).equals(wanted.get(i));
            due.is(state + "after " + call + ", '" + wanted.get(i) + "' as before", alike, true);
        }
    }

    private void twoAlikeAreSeenAlike() {
        due.sentence("what is held side by side has something in it");
        due.is("length(0) of an object in use", inUse().length(0), 6);
        due.is("length(2) of an object in use", inUse().length(2), 0);
        due.is("restore(3) of an object in use", inUse().restore(3), -5);
        due.is("make on an object in use", inUse().make(0, 1, 1), 1);
        due.is("make on a full object", full().make(0, 1, 1), -1);
        due.is("save on a full object", full().save(0), -1);
        due.is("pick on a full object", full().pick(0) >= 0, true);
        NumberStreams moved = inUse();
        moved.next(6);
        due.is("a step can be seen", View.of(moved).equals(View.of(inUse())), false);
        NumberStreams heavier = inUse();
        heavier.weigh(15, 7 * 15 % 11 + 1);
        due.is("a weight can be seen", View.of(heavier).equals(View.of(inUse())), false);
    }

    private void refusalsOfEveryState() {
        due.sentence("A call that is refused changes nothing");
        for (int kind : new int[] {-1, 4, LEAST, MOST}) {
            leaves("make(" + kind + ", 1, 1)", -1, x -> x.make(kind, 1, 1));
            leaves("make(" + kind + ", 0, 0)", -1, x -> x.make(kind, 0, 0));
        }
        for (int slot : FAR) {
            refusalsOfSlot(slot);
        }
        for (int record : new int[] {-1, 6, 7, LEAST, MOST}) {
            refusalsOfRecord(record);
        }
        for (int i : new int[] {-1, 1048576, LEAST, MOST}) {
            leaves("seek(" + i + ")", 0, x -> told(x.seek(i)));
        }
        for (int d : new int[] {-1, 6, LEAST, MOST}) {
            leaves("coordinate(" + d + ")", -1, x -> x.coordinate(d));
        }
        for (int outcome : new int[] {-1, 16, LEAST, MOST}) {
            leaves("weigh(" + outcome + ", 5)", 0, x -> told(x.weigh(outcome, 5)));
            leaves("card(" + outcome + ")", -1, x -> x.card(outcome));
        }
        for (int w : new int[] {-1, 1000001, LEAST, MOST}) {
            leaves("weigh(0, " + w + ")", 0, x -> told(x.weigh(0, w)));
            leaves("weigh(8, " + w + ")", 0, x -> told(x.weigh(8, w)));
            leaves("weigh(15, " + w + ")", 0, x -> told(x.weigh(15, w)));
        }
    }

    /** The slot holds no stream, or is none. */
    private void refusalsOfSlot(int slot) {
        leaves("twin(" + slot + ")", -1, x -> x.twin(slot));
        leaves("release(" + slot + ")", 0, x -> told(x.release(slot)));
        leaves("next(" + slot + ")", -1, x -> x.next(slot));
        leaves("jump(" + slot + ", 5)", 0, x -> told(x.jump(slot, 5)));
        leaves("draw(" + slot + ", 5)", -1, x -> x.draw(slot, 5));
        leaves("same(" + slot + ", " + slot + ")", 0, x -> told(x.same(slot, slot)));
        leaves("same(" + slot + ", 0)", 0, x -> told(x.same(slot, 0)));
        leaves("same(0, " + slot + ")", 0, x -> told(x.same(0, slot)));
        leaves("save(" + slot + ")", -1, x -> x.save(slot));
        leaves("pick(" + slot + ")", -1, x -> x.pick(slot));
        leaves("shuffle(" + slot + ")", 0, x -> told(x.shuffle(slot)));
    }

    private void refusalsOfRecord(int record) {
        leaves("length(" + record + ")", -1, x -> x.length(record));
        leaves("word(" + record + ", 0)", 0, x -> x.word(record, 0));
        leaves("spoil(" + record + ", 0, 1)", 0, x -> told(x.spoil(record, 0, 1)));
        leaves("cut(" + record + ")", 0, x -> told(x.cut(record)));
        leaves("restore(" + record + ")", -1, x -> x.restore(record));
    }

    private void refusalsOfStates() {
        int[][] none = {{1, 0, 0}, {3, 0, 0}, {3, -1, 1}, {3, 1, -1}, {3, MOST, 1}, {3, 1, MOST}};
        for (int[] s : none) {
            leaves("make(" + s[0] + ", " + s[1] + ", " + s[2] + ")", -2, x -> x.make(s[0], s[1], s[2]));
        }
    }

    private void refusalsOfStreams(int... slots) {
        for (int slot : slots) {
            for (int k : new int[] {-1, 65536, LEAST, MOST}) {
                leaves("jump(" + slot + ", " + k + ")", 0, x -> told(x.jump(slot, k)));
            }
            for (int n : new int[] {0, -1, LEAST}) {
                leaves("draw(" + slot + ", " + n + ")", -1, x -> x.draw(slot, n));
            }
        }
    }

    private void refusalsOfANewObject() {
        for (int slot = 0; slot < 8; slot++) {
            refusalsOfSlot(slot);
        }
        for (int record = 0; record < 6; record++) {
            refusalsOfRecord(record);
        }
        refusalsOfStates();
        due.sentence("Promise 19: -1, without a draw, when .. all weights are 0");
        for (int kind = 0; kind < 4; kind++) {
            int made = kind;
            maker = () -> {
                NumberStreams x = new NumberStreams();
                x.make(made, 5, 6);
                return x;
            };
            leaves("pick(0)", -1, x -> x.pick(0));
        }
    }

    private void refusalsInUse() {
        refusalsOfSlot(1);
        refusalsOfSlot(5);
        refusalsOfSlot(7);
        refusalsOfRecord(4);
        refusalsOfRecord(5);
        refusalsOfStates();
        refusalsOfStreams(0, 2, 3, 4, 6);
        for (int i : new int[] {-1, 6, LEAST, MOST}) {
            leaves("word(0, " + i + ")", 0, x -> x.word(0, i));
            leaves("spoil(0, " + i + ", 1)", 0, x -> told(x.spoil(0, i, 1)));
        }
        leaves("spoil of a word that was cut", 0, x -> told(x.spoil(1, 4, 1)));
        leaves("spoil of an empty record", 0, x -> told(x.spoil(2, 0, 1)));
        leaves("cut of an empty record", 0, x -> told(x.cut(2)));
        leaves("restore of a record that was cut", -3, x -> x.restore(1));
        leaves("restore of an empty record", -2, x -> x.restore(2));
        leaves("restore of a state that is none", -5, x -> x.restore(3));
        due.sentence("A call that is refused changes nothing: restore of a spoiled record");
        maker = () -> inUseWithFalseWord(5);
        leaves("restore of a false check", -4, x -> x.restore(0));
        maker = () -> inUseWithFalseWord(0);
        leaves("restore of a false head", -2, x -> x.restore(0));
        maker = RefusalsTest::inUse;
    }

    private static NumberStreams inUseWithFalseWord(int i) {
        NumberStreams x = inUse();
        x.spoil(0, i, 64);
        return x;
    }

    private void questionsInUse() {
        due.sentence("a question changes nothing");
        leaves("same(0, 2)", 0, x -> told(x.same(0, 2)));
        leaves("same(2, 2)", 1, x -> told(x.same(2, 2)));
        leaves("length(0)", 6, x -> x.length(0));
        leaves("length(2)", 0, x -> x.length(2));
        leaves("word(0, 0)", 24301824, x -> x.word(0, 0));
        leaves("word(0, 5) and all before it", inUse().word(0, 5), x -> lastWord(x, 0));
        for (int d = 0; d < 6; d++) {
            int asked = d;
            leaves("coordinate(" + d + ")", inUse().coordinate(d), x -> x.coordinate(asked));
        }
        for (int place = 0; place < 16; place++) {
            int asked = place;
            leaves("card(" + place + ")", inUse().card(place), x -> x.card(asked));
        }
    }

    private static long lastWord(NumberStreams x, int record) {
        long word = 0;
        for (int i = 0; i < x.length(record); i++) {
            word = x.word(record, i);
        }
        return word;
    }

    private void callsWithoutEffect() {
        due.sentence("a call that sets what is already so changes nothing");
        for (int slot : new int[] {0, 2, 3, 4, 6}) {
            leaves("jump(" + slot + ", 0)", 1, x -> told(x.jump(slot, 0)));
        }
        leaves("spoil(0, 1, 0)", 1, x -> told(x.spoil(0, 1, 0)));
        leaves("seek(99)", 1, x -> told(x.seek(99)));
        leaves("weigh(2, 3)", 1, x -> told(x.weigh(2, 3)));
        leaves("weigh(0, 0)", 1, x -> told(x.weigh(0, 0)));
        leaves("twin(0) and release of it", 1, x -> told(x.release(x.twin(0))));
        leaves("make and release of it", 1, x -> told(x.release(x.make(0, 9, 9))));
        leaves("restore(0) and release of it", 1, x -> told(x.release(x.restore(0))));
    }

    private void refusalsWhenFull() {
        due.sentence("A call that is refused changes nothing: no slot is free");
        for (int kind = 0; kind < 4; kind++) {
            int made = kind;
            leaves("make(" + kind + ", 1, 1)", -1, x -> x.make(made, 1, 1));
        }
        leaves("make(1, 0, 0)", -1, x -> x.make(1, 0, 0));
        leaves("make(3, -1, 0)", -1, x -> x.make(3, -1, 0));
        for (int i = 0; i < 8; i++) {
            int slot = i;
            leaves("twin(" + slot + ")", -1, x -> x.twin(slot));
        }
        for (int i = 0; i < 4; i++) {
            int record = i;
            leaves("restore(" + record + ")", -6, x -> x.restore(record));
        }
        leaves("restore of a record that was cut", -3, x -> x.restore(4));
        leaves("restore of a false check", -4, x -> x.restore(5));
        due.sentence("A call that is refused changes nothing: 6 records are there");
        for (int i = 0; i < 8; i++) {
            int slot = i;
            leaves("save(" + slot + ")", -1, x -> x.save(slot));
        }
        refusalsOfStreams(0, 1, 2, 3, 4, 5, 6, 7);
    }
}
