import java.util.Random;

/** Promises 1 to 21: long mixed runs on new objects, every answer held against the model's. */
public final class RandomRunsTest {
    private static final int RUNS = 300;
    /** With what a forging and the audit add, a run stays within the 512 calls of which the document speaks. */
    private static final int CALLS = 420;
    private static final int[] WORDS = {0, 1, -1, 2, Integer.MIN_VALUE, Integer.MAX_VALUE, Integer.MAX_VALUE - 1};
    private static final int[] BOUNDS = {Integer.MIN_VALUE, -1, 0, 1, 2, 3, 6, 1431655766, 1073741825, 1073741824,
        Integer.MAX_VALUE, 1000000, 16000000};
    private static final int[] JUMPS = {0, 1, 2, -1, 65536, Integer.MIN_VALUE, Integer.MAX_VALUE};
    private static final int[] INDEXES = {0, 1048575, 1048576, -1, 1048574, 524288, Integer.MIN_VALUE, Integer.MAX_VALUE};
    private static final int[] LOADS = {0, 0, 0, 1, 5, 1000000, 1000001, -1, Integer.MIN_VALUE, Integer.MAX_VALUE};

    private final Random random;
    private final Due due;
    private final String run;
    private final NumberStreams x = new NumberStreams();
    private final Model model = new Model();
    private int calls = 0;

    private RandomRunsTest(int run, Due due) {
        this.random = new Random(run);
        this.due = due;
        this.run = "run " + run + ": ";
    }

    public static void main(String[] args) {
        Due due = new Due();
        for (int run = 0; run < RUNS && due.wrong() < 20; run++) {
            RandomRunsTest test = new RandomRunsTest(run, due);
            while (test.calls < CALLS && due.wrong() < 20) {
                test.call();
            }
            test.audit();
        }
        due.end();
    }

    private int oneOf(int[] row) {
        return row[random.nextInt(row.length)];
    }

    /** Mostly 0 .. size - 1, now and then a value outside it, near or far. */
    private int about(int size) {
        int dice = random.nextInt(40);
        if (dice == 0) {
            return oneOf(WORDS);
        }
        return dice < 3 ? (dice == 1 ? -1 : size) : random.nextInt(size);
    }

    private int anyWord() {
        return random.nextInt(3) == 0 ? oneOf(WORDS) : random.nextInt();
    }

    private void is(String call, long got, long want) {
        calls++;
        due.is(run + call, got, want);
    }

    private void is(String call, boolean got, long want) {
        is(call, got ? 1L : 0L, want);
    }

    private void call() {
        int dice = random.nextInt(100);
        if (dice < 55) {
            callOnStream(random.nextInt(9));
        } else if (dice < 75) {
            callOnRecord(random.nextInt(20));
        } else if (dice < 87) {
            callOnPoints(random.nextInt(5));
        } else {
            callOnLots(random.nextInt(6));
        }
    }

    private void callOnStream(int which) {
        int slot = about(8);
        switch (which) {
            case 0, 1 -> {
                int kind = about(4);
                int a = anyWord();
                int b = anyWord();
                is("make(" + kind + ", " + a + ", " + b + ")", x.make(kind, a, b), model.make(kind, a, b));
            }
            case 2 -> is("twin(" + slot + ")", x.twin(slot), model.twin(slot));
            case 3 -> is("release(" + slot + ")", x.release(slot), model.release(slot));
            case 4 -> {
                int k = random.nextInt(3) == 0 ? oneOf(JUMPS) : random.nextInt(random.nextInt(200) == 0 ? 65536 : 60);
                is("jump(" + slot + ", " + k + ")", x.jump(slot, k), model.jump(slot, k));
            }
            case 5 -> {
                int n = random.nextInt(4) == 0 ? random.nextInt() : oneOf(BOUNDS);
                is("draw(" + slot + ", " + n + ")", x.draw(slot, n), model.draw(slot, n));
            }
            case 6 -> {
                int other = about(8);
                is("same(" + slot + ", " + other + ")", x.same(slot, other), model.same(slot, other));
            }
            default -> is("next(" + slot + ")", x.next(slot), model.next(slot));
        }
    }

    private void callOnRecord(int which) {
        int record = about(6);
        int i = about(6);
        switch (which) {
            case 0, 1, 2 -> {
                int slot = about(8);
                is("save(" + slot + ")", x.save(slot), model.save(slot));
            }
            case 3, 4 -> is("length(" + record + ")", x.length(record), model.length(record));
            case 5, 6 -> is("word(" + record + ", " + i + ")", x.word(record, i), model.word(record, i));
            case 7, 8 -> {
                int mask = random.nextBoolean() ? random.nextInt(8) : anyWord();
                spoil(record, i, mask);
            }
            case 9 -> {
                if (random.nextInt(6) == 0) {
                    is("cut(" + record + ")", x.cut(record), model.cut(record));
                }
            }
            case 10, 11 -> forge(record);
            default -> is("restore(" + record + ")", x.restore(record), model.restore(record));
        }
    }

    private void spoil(int record, int i, int mask) {
        is("spoil(" + record + ", " + i + ", " + mask + ")", x.spoil(record, i, mask), model.spoil(record, i, mask));
    }

    /** A record with a right check whose state may be none of its kind. */
    private void forge(int record) {
        int size = (int) model.length(record);
        if (size < 1) {
            return;
        }
        int[] words = new int[size - 1];
        for (int i = 0; i < size - 1; i++) {
            words[i] = i == 0 ? Forge.HEAD + random.nextInt(4) : anyWord();
            spoil(record, i, (int) model.word(record, i) ^ words[i]);
        }
        spoil(record, size - 1, (int) model.word(record, size - 1) ^ Forge.check(words));
        is("restore(" + record + ")", x.restore(record), model.restore(record));
    }

    private void callOnPoints(int which) {
        switch (which) {
            case 0 -> {
                int i = random.nextBoolean() ? oneOf(INDEXES) : random.nextInt(1048576);
                is("seek(" + i + ")", x.seek(i), model.seek(i));
            }
            case 1 -> is("advance()", x.advance(), model.advance());
            default -> {
                int d = about(6);
                is("coordinate(" + d + ")", x.coordinate(d), model.coordinate(d));
            }
        }
    }

    private void callOnLots(int which) {
        int slot = about(8);
        switch (which) {
            case 0, 1 -> {
                int outcome = about(16);
                int w = random.nextBoolean() ? oneOf(LOADS) : random.nextInt(1000001);
                is("weigh(" + outcome + ", " + w + ")", x.weigh(outcome, w), model.weigh(outcome, w));
            }
            case 2, 3 -> is("pick(" + slot + ")", x.pick(slot), model.pick(slot));
            case 4 -> is("shuffle(" + slot + ")", x.shuffle(slot), model.shuffle(slot));
            default -> {
                int place = about(16);
                is("card(" + place + ")", x.card(place), model.card(place));
            }
        }
    }

    /** Everything that can be seen at the end, so that a refused call that changed something is found out. */
    private void audit() {
        for (int record = 0; record < 6; record++) {
            is("at last length(" + record + ")", x.length(record), model.length(record));
            for (int i = 0; i < 6; i++) {
                is("at last word(" + record + ", " + i + ")", x.word(record, i), model.word(record, i));
            }
        }
        for (int slot = 0; slot < 8; slot++) {
            is("at last next(" + slot + ")", x.next(slot), model.next(slot));
            is("at last pick(" + slot + ")", x.pick(slot), model.pick(slot));
        }
        for (int place = 0; place < 16; place++) {
            is("at last card(" + place + ")", x.card(place), model.card(place));
        }
        for (int d = 0; d < 6; d++) {
            is("at last coordinate(" + d + ")", x.coordinate(d), model.coordinate(d));
        }
    }
}
