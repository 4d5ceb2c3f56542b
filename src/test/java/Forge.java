/** Writes records by spoiling: the only way to states that make() can't give. */
final class Forge {
    static final int HEAD = 24301824;

    private Forge() {
    }

    static int check(int... words) {
        int c = 1;
        for (int word : words) {
            c = c * 31 + word;
        }
        return c ^ (c >>> 15);
    }

    /** The words, and behind them their check, as far as the record has room for them. */
    static void write(NumberStreams x, int record, int... words) {
        for (int i = 0; i < words.length; i++) {
            x.spoil(record, i, x.word(record, i) ^ words[i]);
        }
        x.spoil(record, words.length, x.word(record, words.length) ^ check(words));
    }

    /** The head of a kind, a state and their check. */
    static void writeState(NumberStreams x, int record, int kind, int... state) {
        int[] words = new int[state.length + 1];
        words[0] = HEAD + kind;
        System.arraycopy(state, 0, words, 1, state.length);
        write(x, record, words);
    }

    /** An object whose record 0 is forged; its slot 0 holds a stream of the kind. */
    static NumberStreams withRecord(int kind, int... state) {
        NumberStreams x = new NumberStreams();
        x.make(kind, 1, 1);
        x.save(0);
        writeState(x, 0, kind, state);
        return x;
    }
}
