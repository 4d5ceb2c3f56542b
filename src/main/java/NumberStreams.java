/** Streams of words of four kinds, what is drawn from them, and a sequence of points: see README.md. */
public final class NumberStreams {
    private static final int SLOT_COUNT = 8;
    private static final int RECORD_LIMIT = 6;
    private static final int OUTCOME_COUNT = 16;
    private static final int PLACE_COUNT = 16;
    private static final int HEAVIEST = 1000000;
    private static final int LONGEST_JUMP = 65535;

    private final Stream[] slots;
    private final Saved[] records;
    private int recordCount;
    private final Points points;
    private final int[] weights;
    private final int[] cards;

    public NumberStreams() {
        slots = new Stream[SLOT_COUNT];
        records = new Saved[RECORD_LIMIT];
        recordCount = 0;
        points = new Points();
        weights = new int[OUTCOME_COUNT];
        cards = new int[PLACE_COUNT];
        for (int place = 0; place < PLACE_COUNT; place++) {
            cards[place] = place;
        }
    }

    public int make(int kind, int a, int b) {
        int slot = leastFreeSlot();
        if (!Stream.isKind(kind) || slot < 0) {
            return -1;
        }
        long first = Stream.firstOfSeed(kind, a, b);
        long second = Stream.secondOfSeed(kind, a, b);
        if (!Stream.isState(kind, first, second)) {
            return -2;
        }
        slots[slot] = new Stream(kind, first, second);
        return slot;
    }

    public int twin(int slot) {
        Stream stream = streamAt(slot);
        int free = leastFreeSlot();
        if (stream == null || free < 0) {
            return -1;
        }
        slots[free] = new Stream(stream.kind, stream.first, stream.second);
        return free;
    }

    public boolean release(int slot) {
        if (streamAt(slot) == null) {
            return false;
        }
        slots[slot] = null;
        return true;
    }

    public long next(int slot) {
        Stream stream = streamAt(slot);
        if (stream == null) {
            return -1;
        }
        return asNumber(stream.step());
    }

    public boolean jump(int slot, int k) {
        Stream stream = streamAt(slot);
        if (stream == null || k < 0 || k > LONGEST_JUMP) {
            return false;
        }
        for (int i = 0; i < k; i++) {
            stream.move();
        }
        return true;
    }

    public int draw(int slot, int n) {
        Stream stream = streamAt(slot);
        if (stream == null || n < 1) {
            return -1;
        }
        return stream.drawnBelow(n);
    }

    public boolean same(int slot, int other) {
        Stream one = streamAt(slot);
        Stream two = streamAt(other);
        return one != null && two != null
            && one.kind == two.kind && one.first == two.first && one.second == two.second;
    }

    public int save(int slot) {
        Stream stream = streamAt(slot);
        if (stream == null || recordCount >= RECORD_LIMIT) {
            return -1;
        }
        int record = recordCount;
        records[record] = new Saved(stream);
        recordCount++;
        return record;
    }

    public int length(int record) {
        Saved saved = recordAt(record);
        return saved == null ? -1 : saved.count;
    }

    public int word(int record, int i) {
        Saved saved = recordAt(record);
        return saved == null || !saved.hasWord(i) ? 0 : saved.words[i];
    }

    public boolean spoil(int record, int i, int mask) {
        Saved saved = recordAt(record);
        if (saved == null || !saved.hasWord(i)) {
            return false;
        }
        saved.words[i] ^= mask;
        return true;
    }

    public boolean cut(int record) {
        Saved saved = recordAt(record);
        if (saved == null || saved.count == 0) {
            return false;
        }
        saved.count--;
        return true;
    }

    public int restore(int record) {
        Saved saved = recordAt(record);
        if (saved == null) {
            return -1;
        }
        int fault = saved.fault();
        if (fault != 0) {
            return fault;
        }
        int slot = leastFreeSlot();
        if (slot < 0) {
            return -6;
        }
        slots[slot] = new Stream(saved.kind(), saved.first(), saved.second());
        return slot;
    }

    public boolean seek(int i) {
        if (i < 0 || i > Points.LAST_INDEX) {
            return false;
        }
        points.index = i;
        return true;
    }

    public int advance() {
        points.index = points.index == Points.LAST_INDEX ? 0 : points.index + 1;
        return points.index;
    }

    public long coordinate(int d) {
        switch (d) {
            case 0:
            case 1:
            case 2:
            case 3:
                return asNumber(points.joinedDirections(d));
            case 4:
                return points.turnedDigits(3, 13);
            case 5:
                return points.turnedDigits(5, 9);
            default:
                return -1;
        }
    }

    public boolean weigh(int outcome, int w) {
        if (outcome < 0 || outcome >= OUTCOME_COUNT || w < 0 || w > HEAVIEST) {
            return false;
        }
        weights[outcome] = w;
        return true;
    }

    public int pick(int slot) {
        Stream stream = streamAt(slot);
        int total = totalWeight();
        if (stream == null || total < 1) {
            return -1;
        }
        return outcomeAt(stream.drawnBelow(total));
    }

    public boolean shuffle(int slot) {
        Stream stream = streamAt(slot);
        if (stream == null) {
            return false;
        }
        for (int i = PLACE_COUNT - 1; i >= 1; i--) {
            int place = stream.drawnBelow(i + 1);
            int held = cards[i];
            cards[i] = cards[place];
            cards[place] = held;
        }
        return true;
    }

    public int card(int place) {
        return place < 0 || place >= PLACE_COUNT ? -1 : cards[place];
    }

    private Stream streamAt(int slot) {
        return slot < 0 || slot >= SLOT_COUNT ? null : slots[slot];
    }

    private int leastFreeSlot() {
        for (int slot = 0; slot < SLOT_COUNT; slot++) {
            if (slots[slot] == null) {
                return slot;
            }
        }
        return -1;
    }

    private Saved recordAt(int record) {
        return record < 0 || record >= recordCount ? null : records[record];
    }

    private int totalWeight() {
        int total = 0;
        for (int outcome = 0; outcome < OUTCOME_COUNT; outcome++) {
            total += weights[outcome];
        }
        return total;
    }

    private int outcomeAt(int mark) {
        int sum = 0;
        for (int outcome = 0; outcome < OUTCOME_COUNT; outcome++) {
            sum += weights[outcome];
            if (sum > mark) {
                return outcome;
            }
        }
        return -1;
    }

    private static long asNumber(int word) {
        return word & 0xFFFFFFFFL;
    }

    private static long joined(int upper, int lower) {
        return (long) upper << 32 | asNumber(lower);
    }

    /**
     * The state of every kind is held as two longs, in the order in which the document names its parts. A part that
     * is an int stands there with its sign, so that equal states are equal longs.
     */
    private static final class Stream {
        static final int LAST_KIND = 3;
        private static final int MOST_WORDS_OF_A_DRAW = 8;
        private static final long MODULUS = 2147483647L;
        private static final long LAST_COUNTER = 0x7FFFFFFFFFFFFFFFL;

        final int kind;
        long first;
        long second;

        Stream(int kind, long first, long second) {
            this.kind = kind;
            this.first = first;
            this.second = second;
        }

        static boolean isKind(int kind) {
            return kind >= 0 && kind <= LAST_KIND;
        }

        static boolean isFirstLong(int kind) {
            return kind == 0;
        }

        static boolean isSecondLong(int kind) {
            return kind == 0 || kind == 2;
        }

        static long firstOfSeed(int kind, int a, int b) {
            return kind == 0 ? joined(a, b) : a;
        }

        static long secondOfSeed(int kind, int a, int b) {
            switch (kind) {
                case 0:
                    return 2 * joined(a, b) + 1;
                case 2:
                    return asNumber(b);
                default:
                    return b;
            }
        }

        static boolean isState(int kind, long first, long second) {
            switch (kind) {
                case 0:
                    return (second & 1) == 1;
                case 1:
                    return first != 0 || second != 0;
                case 2:
                    return second >= 0;
                case 3:
                    return isRemainder(first) && isRemainder(second) && (first != 0 || second != 0);
                default:
                    return false;
            }
        }

        private static boolean isRemainder(long x) {
            return x >= 0 && x < MODULUS;
        }

        int step() {
            int output = output();
            move();
            return output;
        }

        int drawnBelow(int n) {
            long least = n < 1 ? 0 : 4294967296L % n;
            long product = asNumber(step()) * n;
            for (int taken = 1; taken < MOST_WORDS_OF_A_DRAW && asNumber((int) product) < least; taken++) {
                product = asNumber(step()) * n;
            }
            return (int) (product >>> 32);
        }

        /** Changes the state as a step does; a jump needs no more than this. */
        void move() {
            switch (kind) {
                case 0:
                    first = first * 6364136223846793005L + second;
                    break;
                case 1:
                    moveRotations();
                    break;
                case 2:
                    second = second == LAST_COUNTER ? 0 : second + 1;
                    break;
                default:
                    long remainder = nextRemainder();
                    second = first;
                    first = remainder;
                    break;
            }
        }

        private int output() {
            switch (kind) {
                case 0:
                    return Integer.rotateRight((int) ((first >>> 18 ^ first) >>> 27), (int) (first >>> 59));
                case 1:
                    return Integer.rotateLeft((int) first * 0x9E3779BB, 5) * 5;
                case 2:
                    return mixedCounter();
                default:
                    return (int) (2 * nextRemainder() + (first & 1));
            }
        }

        private void moveRotations() {
            int a = (int) first;
            int b = (int) second ^ a;
            first = Integer.rotateLeft(a, 26) ^ b ^ (b << 9);
            second = Integer.rotateLeft(b, 13);
        }

        private int mixedCounter() {
            int x = (int) (second >>> 1);
            int y = (int) (second >>> 33);
            int k = (int) first;
            for (int round = 0; round < 10; round++) {
                long product = asNumber(x) * 0xD256D193L;
                x = (int) (product >>> 32) ^ k ^ y;
                y = (int) product;
                k += 0x9E3779B9;
            }
            return (second & 1) == 0 ? x : y;
        }

        private long nextRemainder() {
            return (1403580 * first + 810728 * second) % MODULUS;
        }
    }

    /** A record. Its words may be spoiled and cut, so nothing is believed of them before fault() has looked. */
    private static final class Saved {
        private static final int FIRST_HEAD = 24301824;
        private static final int MOST_WORDS = 6;

        final int[] words;
        int count;

        Saved(Stream stream) {
            words = new int[MOST_WORDS];
            count = 0;
            append(FIRST_HEAD + stream.kind);
            appendPart(stream.first, Stream.isFirstLong(stream.kind));
            appendPart(stream.second, Stream.isSecondLong(stream.kind));
            append(checkOfFirst(count));
        }

        private void append(int word) {
            words[count] = word;
            count++;
        }

        private void appendPart(long part, boolean isLong) {
            if (isLong) {
                append((int) (part >>> 32));
            }
            append((int) part);
        }

        private int checkOfFirst(int size) {
            int c = 1;
            for (int i = 0; i < size; i++) {
                c = 31 * c + words[i];
            }
            return c ^ (c >>> 15);
        }

        boolean hasWord(int i) {
            return i >= 0 && i < count;
        }

        /** The answer with which a restore is refused, or 0. */
        int fault() {
            if (count == 0 || !Stream.isKind(kind())) {
                return -2;
            }
            if (count != wordsOfKind(kind())) {
                return -3;
            }
            if (words[count - 1] != checkOfFirst(count - 1)) {
                return -4;
            }
            return Stream.isState(kind(), first(), second()) ? 0 : -5;
        }

        private static int wordsOfKind(int kind) {
            return 2 + wordsOfPart(Stream.isFirstLong(kind)) + wordsOfPart(Stream.isSecondLong(kind));
        }

        private static int wordsOfPart(boolean isLong) {
            return isLong ? 2 : 1;
        }

        int kind() {
            return words[0] - FIRST_HEAD;
        }

        long first() {
            return partAt(1, Stream.isFirstLong(kind()));
        }

        long second() {
            int at = 1 + wordsOfPart(Stream.isFirstLong(kind()));
            return partAt(at, Stream.isSecondLong(kind()));
        }

        private long partAt(int at, boolean isLong) {
            return isLong ? joined(words[at], words[at + 1]) : words[at];
        }
    }

    /** The sequence of points; its direction words are the same for every index, so they are made once. */
    private static final class Points {
        static final int LAST_INDEX = 1048575;
        private static final int INDEX_BITS = 20;

        private final int[][] directions;
        int index;

        Points() {
            directions = new int[4][INDEX_BITS];
            index = 0;
            for (int j = 0; j < INDEX_BITS; j++) {
                directions[0][j] = 1;
            }
            startRow(1, 1, 0, 0);
            growRow(1, 1, 0);
            startRow(2, 1, 3, 0);
            growRow(2, 2, 1);
            startRow(3, 1, 3, 1);
            growRow(3, 3, 1);
            for (int row = 0; row < 4; row++) {
                alignRow(row);
            }
        }

        /** A first m that the row's degree does not give is told as 0: growing writes over it. */
        private void startRow(int row, int m1, int m2, int m3) {
            directions[row][0] = m1;
            directions[row][1] = m2;
            directions[row][2] = m3;
        }

        /** Entry j of a row is the document's m(j + 1), here and until the row is aligned. */
        private void growRow(int row, int degree, int innerBits) {
            int[] m = directions[row];
            for (int j = degree; j < INDEX_BITS; j++) {
                int grown = m[j - degree] ^ (m[j - degree] << degree);
                for (int q = 1; q < degree; q++) {
                    if ((innerBits >>> (degree - 1 - q) & 1) == 1) {
                        grown ^= m[j - q] << q;
                    }
                }
                m[j] = grown;
            }
        }

        private void alignRow(int row) {
            for (int j = 0; j < INDEX_BITS; j++) {
                directions[row][j] <<= 31 - j;
            }
        }

        int joinedDirections(int row) {
            int gray = index ^ (index >>> 1);
            int together = 0;
            for (int j = 0; j < INDEX_BITS; j++) {
                if ((gray >>> j & 1) == 1) {
                    together ^= directions[row][j];
                }
            }
            return together;
        }

        int turnedDigits(int base, int digits) {
            int rest = index;
            int turned = 0;
            for (int i = 0; i < digits; i++) {
                turned = turned * base + rest % base;
                rest /= base;
            }
            return turned;
        }
    }
}
