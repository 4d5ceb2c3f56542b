import java.math.BigInteger;
import java.util.ArrayList;
import java.util.Arrays;
import java.util.Collections;
import java.util.List;

/**
 * The document told a second time, in whole numbers without wrap, so that a slip in the class's int and long
 * arithmetic is not a slip here too. Every answer is a long; a boolean is 1 or 0.
 */
final class Model {
    private static final BigInteger TWO_32 = BigInteger.ONE.shiftLeft(32);
    private static final BigInteger TWO_63 = BigInteger.ONE.shiftLeft(63);
    private static final BigInteger TWO_64 = BigInteger.ONE.shiftLeft(64);
    private static final BigInteger PRIME = BigInteger.valueOf(2147483647L);

    private static final class Stream {
        final int kind;
        BigInteger one;
        BigInteger two;

        Stream(int kind, BigInteger one, BigInteger two) {
            this.kind = kind;
            this.one = one;
            this.two = two;
        }
    }

    private final Stream[] slots = new Stream[8];
    private final List<List<Integer>> records = new ArrayList<>();
    private int index = 0;
    private final int[] weights = new int[16];
    private final List<Integer> cards = new ArrayList<>();

    /** The greatest number of words that one draw has taken, so that a test can look for draws of eight. */
    int mostTaken = 0;
    /** Whether a draw has kept an eighth word that would else have been rejected. */
    boolean keptBadEighth = false;

    Model() {
        for (int i = 0; i < 16; i++) {
            cards.add(i);
        }
    }

    private static BigInteger number(int word) {
        return BigInteger.valueOf(Integer.toUnsignedLong(word));
    }

    private static BigInteger number(String hex) {
        return new BigInteger(hex, 16);
    }

    private static BigInteger turnLeft(BigInteger x, int r) {
        return x.shiftLeft(r).mod(TWO_32).add(x.shiftRight(32 - r));
    }

    private static boolean isState(int kind, BigInteger one, BigInteger two) {
        boolean notBothZero = one.signum() != 0 || two.signum() != 0;
        return switch (kind) {
            case 0 -> two.testBit(0);
            case 1 -> notBothZero;
            case 2 -> two.compareTo(TWO_63) < 0;
            default -> notBothZero && one.compareTo(PRIME) < 0 && two.compareTo(PRIME) < 0;
        };
    }

    private static BigInteger step(Stream t) {
        return switch (t.kind) {
            case 0 -> stepZero(t);
            case 1 -> stepOne(t);
            case 2 -> stepTwo(t);
            default -> stepThree(t);
        };
    }

    private static BigInteger stepZero(Stream t) {
        BigInteger s = t.one;
        BigInteger x = s.shiftRight(18).xor(s).shiftRight(27).mod(TWO_32);
        int r = s.shiftRight(59).intValueExact();
        t.one = s.multiply(new BigInteger("6364136223846793005")).add(t.two).mod(TWO_64);
        return turnLeft(x, 32 - r).mod(TWO_32);
    }

    private static BigInteger stepOne(Stream t) {
        BigInteger a = t.one;
        BigInteger b = a.xor(t.two);
        t.one = turnLeft(a, 26).xor(b).xor(b.shiftLeft(9).mod(TWO_32));
        t.two = turnLeft(b, 13);
        BigInteger product = a.multiply(number("9E3779BB")).mod(TWO_32);
        return turnLeft(product, 5).multiply(BigInteger.valueOf(5)).mod(TWO_32);
    }

    private static BigInteger stepTwo(Stream t) {
        BigInteger p = t.two;
        BigInteger x = p.shiftRight(1).mod(TWO_32);
        BigInteger y = p.shiftRight(33);
        for (int i = 0; i < 10; i++) {
            BigInteger k = t.one.add(number("9E3779B9").multiply(BigInteger.valueOf(i))).mod(TWO_32);
            BigInteger[] halves = x.multiply(number("D256D193")).divideAndRemainder(TWO_32);
            x = halves[0].xor(k).xor(y);
            y = halves[1];
        }
        t.two = p.add(BigInteger.ONE).mod(TWO_63);
        return p.testBit(0) ? y : x;
    }

    private static BigInteger stepThree(Stream t) {
        BigInteger u = t.one;
        BigInteger w = u.multiply(BigInteger.valueOf(1403580)).add(t.two.multiply(BigInteger.valueOf(810728))).mod(PRIME);
        t.two = u;
        t.one = w;
        return w.shiftLeft(1).add(u.mod(BigInteger.TWO)).mod(TWO_32);
    }

    private int drawn(Stream t, int n) {
        BigInteger bound = BigInteger.valueOf(n);
        BigInteger least = TWO_32.mod(bound);
        int taken = 0;
        while (true) {
            taken++;
            BigInteger[] halves = step(t).multiply(bound).divideAndRemainder(TWO_32);
            boolean bad = halves[1].compareTo(least) < 0;
            if (!bad || taken == 8) {
                mostTaken = Math.max(mostTaken, taken);
                keptBadEighth |= bad;
                return halves[0].intValueExact();
            }
        }
    }

    private Stream at(int slot) {
        return slot >= 0 && slot < 8 ? slots[slot] : null;
    }

    private List<Integer> recordAt(int record) {
        return record >= 0 && record < records.size() ? records.get(record) : null;
    }

    private int put(Stream t) {
        int free = Arrays.asList(slots).indexOf(null);
        slots[free] = t;
        return free;
    }

    private boolean full() {
        return !Arrays.asList(slots).contains(null);
    }

    long make(int kind, int a, int b) {
        if (kind < 0 || kind > 3 || full()) {
            return -1;
        }
        BigInteger one = number(a);
        BigInteger two = number(b);
        if (kind == 0) {
            one = one.multiply(TWO_32).add(two);
            two = one.multiply(BigInteger.TWO).add(BigInteger.ONE).mod(TWO_64);
        }
        return isState(kind, one, two) ? put(new Stream(kind, one, two)) : -2;
    }

    long twin(int slot) {
        Stream t = at(slot);
        return t == null || full() ? -1 : put(new Stream(t.kind, t.one, t.two));
    }

    long release(int slot) {
        if (at(slot) == null) {
            return 0;
        }
        slots[slot] = null;
        return 1;
    }

    long next(int slot) {
        return at(slot) == null ? -1 : step(at(slot)).longValueExact();
    }

    long jump(int slot, int k) {
        if (at(slot) == null || k < 0 || k > 65535) {
            return 0;
        }
        Stream t = at(slot);
        if (t.kind == 2) {
            t.two = t.two.add(BigInteger.valueOf(k)).mod(TWO_63);
            return 1;
        }
        for (int i = 0; i < k; i++) {
            step(t);
        }
        return 1;
    }

    long draw(int slot, int n) {
        return at(slot) == null || n < 1 ? -1 : drawn(at(slot), n);
    }

    long same(int slot, int other) {
        Stream s = at(slot);
        Stream t = at(other);
        return s != null && t != null && s.kind == t.kind && s.one.equals(t.one) && s.two.equals(t.two) ? 1 : 0;
    }

    long save(int slot) {
        Stream t = at(slot);
        if (t == null || records.size() == 6) {
            return -1;
        }
        List<Integer> words = new ArrayList<>();
        words.add(24301824 + t.kind);
        if (t.kind == 0) {
            words.add(t.one.shiftRight(32).intValue());
        }
        words.add(t.one.intValue());
        if (t.kind == 0 || t.kind == 2) {
            words.add(t.two.shiftRight(32).intValue());
        }
        words.add(t.two.intValue());
        words.add(check(words));
        records.add(words);
        return records.size() - 1;
    }

    private static int check(List<Integer> words) {
        BigInteger c = BigInteger.ONE;
        for (int word : words) {
            c = c.multiply(BigInteger.valueOf(31)).add(number(word)).mod(TWO_32);
        }
        return c.xor(c.shiftRight(15)).intValue();
    }

    long length(int record) {
        return recordAt(record) == null ? -1 : recordAt(record).size();
    }

    private boolean isWord(int record, int i) {
        return i >= 0 && i < length(record);
    }

    long word(int record, int i) {
        return isWord(record, i) ? recordAt(record).get(i) : 0;
    }

    long spoil(int record, int i, int mask) {
        if (!isWord(record, i)) {
            return 0;
        }
        recordAt(record).set(i, recordAt(record).get(i) ^ mask);
        return 1;
    }

    long cut(int record) {
        if (length(record) < 1) {
            return 0;
        }
        recordAt(record).remove(recordAt(record).size() - 1);
        return 1;
    }

    long restore(int record) {
        List<Integer> words = recordAt(record);
        if (words == null) {
            return -1;
        }
        if (words.isEmpty() || words.get(0) < 24301824 || words.get(0) > 24301827) {
            return -2;
        }
        int kind = words.get(0) - 24301824;
        int size = List.of(6, 4, 5, 4).get(kind);
        if (words.size() != size) {
            return -3;
        }
        if (words.get(size - 1) != check(words.subList(0, size - 1))) {
            return -4;
        }
        BigInteger one = number(words.get(1));
        BigInteger two = number(words.get(size - 2));
        if (kind == 0) {
            one = one.multiply(TWO_32).add(number(words.get(2)));
        }
        if (kind == 0 || kind == 2) {
            two = number(words.get(size - 3)).multiply(TWO_32).add(two);
        }
        if (!isState(kind, one, two)) {
            return -5;
        }
        return full() ? -6 : put(new Stream(kind, one, two));
    }

    long seek(int i) {
        if (i < 0 || i > 1048575) {
            return 0;
        }
        index = i;
        return 1;
    }

    long advance() {
        index = (index + 1) % 1048576;
        return index;
    }

    long coordinate(int d) {
        return switch (d) {
            case 0, 1, 2, 3 -> evenWord(d);
            case 4 -> turned(3, 13);
            case 5 -> turned(5, 9);
            default -> -1;
        };
    }

    private long evenWord(int d) {
        long word = 0;
        for (int j = 1; j <= 20; j++) {
            if (((index ^ (index >>> 1)) >> (j - 1)) % 2 == 1) {
                word ^= m(d, j) << (32 - j);
            }
        }
        return word;
    }

    /** The recurrences with the inner bits of the document already read. */
    private static long m(int d, int j) {
        return switch (d) {
            case 0 -> 1;
            case 1 -> j == 1 ? 1 : m(1, j - 1) ^ 2 * m(1, j - 1);
            case 2 -> j <= 2 ? 2 * j - 1 : m(2, j - 2) ^ 4 * m(2, j - 2) ^ 2 * m(2, j - 1);
            default -> j <= 3 ? List.of(1, 3, 1).get(j - 1) : m(3, j - 3) ^ 8 * m(3, j - 3) ^ 4 * m(3, j - 2);
        };
    }

    private long turned(int base, int digits) {
        StringBuilder text = new StringBuilder(Integer.toString(index, base)).reverse();
        while (text.length() < digits) {
            text.append('0');
        }
        return Long.parseLong(text.toString(), base);
    }

    long weigh(int outcome, int w) {
        if (outcome < 0 || outcome > 15 || w < 0 || w > 1000000) {
            return 0;
        }
        weights[outcome] = w;
        return 1;
    }

    long pick(int slot) {
        int sum = Arrays.stream(weights).sum();
        if (at(slot) == null || sum == 0) {
            return -1;
        }
        int left = drawn(at(slot), sum);
        int outcome = 0;
        while (left >= weights[outcome]) {
            left -= weights[outcome];
            outcome++;
        }
        return outcome;
    }

    long shuffle(int slot) {
        if (at(slot) == null) {
            return 0;
        }
        for (int i = 15; i >= 1; i--) {
            Collections.swap(cards, i, drawn(at(slot), i + 1));
        }
        return 1;
    }

    long card(int place) {
        return place < 0 || place > 15 ? -1 : cards.get(place);
    }
}
