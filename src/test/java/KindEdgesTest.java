/** The edges of the four kinds, as 'Terms' tells them: what is a state and what is none, and where a state wraps. */
public final class KindEdgesTest {
    private static final int LEAST = Integer.MIN_VALUE;
    private static final int MOST = Integer.MAX_VALUE;

    private final Due due = new Due();

    public static void main(String[] args) {
        KindEdgesTest test = new KindEdgesTest();
        test.aWordIsANumber();
        test.aWordOfZero();
        test.kindZeroTurnsByNothingAndByAlmostAll();
        test.kindZeroShiftsWithoutSign();
        test.kindZeroWraps();
        test.kindZeroFromASeedWraps();
        test.kindZeroHasAnOddC();
        test.kindOneIsNotBothZero();
        test.kindOneDropsWhatIsShiftedOut();
        test.kindTwoIsZeroOrMore();
        test.kindTwoTakesXAndYInTurn();
        test.kindTwoCarriesOutOfALowerWord();
        test.kindTwoWraps();
        test.kindTwoWrapsInAJump();
        test.kindTwoWrapsInsideADraw();
        test.kindTwoKeyWraps();
        test.kindThreeHasRemaindersOnly();
        test.kindThreeIsNotBothZero();
        test.kindThreeIsExact();
        test.kindThreeWordWraps();
        test.kindThreeTakesTheOldU();
        test.due.end();
    }

    private void words(String stream, NumberStreams x, int slot, long... wanted) {
        for (int i = 0; i < wanted.length; i++) {
            due.is(stream + ", word " + i, x.next(slot), wanted[i]);
        }
    }

    /** The words of a new record, but for its check. */
    private void state(String stream, NumberStreams x, int slot, int... wanted) {
        int record = x.save(slot);
        for (int i = 0; i < wanted.length; i++) {
            due.is(stream + ", state word " + i, x.word(record, i + 1), wanted[i]);
        }
        due.is(stream + ", length", x.length(record), wanted.length + 2);
    }

    private static NumberStreams made(int kind, int a, int b) {
        NumberStreams x = new NumberStreams();
        x.make(kind, a, b);
        return x;
    }

    private static NumberStreams restored(int kind, int... state) {
        NumberStreams x = Forge.withRecord(kind, state);
        x.release(0);
        x.restore(0);
        return x;
    }

    private void isNone(String stream, int kind, int... state) {
        due.is(stream, Forge.withRecord(kind, state).restore(0), -5);
    }

    private void isOne(String stream, int kind, int... state) {
        due.is(stream, Forge.withRecord(kind, state).restore(0), 1);
    }

    private void aWordIsANumber() {
        due.sentence("where a word is called a number it is taken without sign (0 .. 4294967295)");
        for (int word : new int[] {LEAST, MOST, -1, -2, 1, 0}) {
            NumberStreams x = new NumberStreams();
            due.is("a stream aimed at " + word, Aim.make(x, word, 1), 0);
            due.is("next, aimed at " + word, x.next(0), word & 0xFFFFFFFFL);
            due.is("next, aimed at 1", x.next(0), 1);
        }
    }

    private void aWordOfZero() {
        due.sentence("The word is rotl(a * 0x9E3779BB, 5) * 5, of the a before the step");
        words("kind 1, 0 and 1", made(1, 0, 1), 0, 0, 987092197L, 2250816600L);
        words("kind 1, 0 and -2^31", made(1, 0, LEAST), 0, 0, 80, 491651172L);
        due.sentence("The word is 2 * w + (u & 1)");
        words("kind 3, w = 0 and u even", made(3, 2, 1795739719), 0, 0, 3242912L, 3316060614L);
        words("kind 3, w = 0 and u odd", made(3, 1, 1971611683), 0, 1, 1621456L, 3805513954L);
    }

    private void kindZeroTurnsByNothingAndByAlmostAll() {
        due.sentence("The word is rotr(x, r) with .. r = (int) (s >>> 59)");
        words("kind 0, r = 0", restored(0, 0x07FFFFFF, -1, 0, 1), 0, 4294950912L, 2061534099L, 4026084155L);
        words("kind 0, r = 31", restored(0, 0xF8123456, 0x789ABCDE, 0, 3), 0, 75666620L, 4092712996L, 3525129955L);
        words("kind 0, s = 0", restored(0, 0, 0, 0, 1), 0, 0, 0, 3837872008L);
    }

    private void kindZeroShiftsWithoutSign() {
        due.sentence("x = (int) ((s >>> 18 ^ s) >>> 27)");
        words("kind 0, s = -2^63", restored(0, LEAST, 0, 0, 1), 0, 4, 4, 1191765185L);
        words("kind 0, s = 2^63 - 1", restored(0, MOST, -1, -1, -1), 0, 131064L, 1868301426L, 2537081811L);
        words("kind 0, s = -1", restored(0, -1, -1, -1, -1), 0, 4293918721L, 1148350300L, 3419643704L);
    }

    private void kindZeroWraps() {
        due.sentence("All int and long arithmetic wraps .. then s becomes s * 6364136223846793005 + c");
        NumberStreams x = restored(0, -1, -1, -1, -1);
        x.jump(0, 3);
        state("kind 0, s = c = -1, three steps", x, 0, 0x344A09B9, 0xBFB5A9F4, -1, -1);
        NumberStreams y = restored(0, MOST, -1, -1, -1);
        y.next(0);
        y.next(0);
        y.next(0);
        state("kind 0, s = 2^63 - 1, three steps", y, 0, 0xB44A09B9, 0xBFB5A9F4, -1, -1);
    }

    private void kindZeroFromASeedWraps() {
        due.sentence("kind 0: s has the upper 32 bits a and the lower 32 bits b, c = 2 * s + 1");
        state("make(0, 0, 0)", made(0, 0, 0), 0, 0, 0, 0, 1);
        state("make(0, -1, -1)", made(0, -1, -1), 0, -1, -1, -1, -1);
        state("make(0, -2^31, 0)", made(0, LEAST, 0), 0, LEAST, 0, 0, 1);
        state("make(0, 0, -1)", made(0, 0, -1), 0, 0, -1, 1, -1);
        state("make(0, 0, -2^31)", made(0, 0, LEAST), 0, 0, LEAST, 1, 1);
        state("make(0, 2^31 - 1, -1)", made(0, MOST, -1), 0, MOST, -1, -1, -1);
    }

    private void kindZeroHasAnOddC() {
        due.sentence("KIND 0: two longs s and c (c is odd)");
        isNone("c = 0", 0, 1, 1, 0, 0);
        isNone("c = 2", 0, 1, 1, 0, 2);
        isNone("c = -2", 0, 1, 1, -1, -2);
        isNone("c = 2^32, odd in its upper word alone", 0, 1, 1, 1, 0);
        isNone("c = -2^63", 0, 1, 1, LEAST, 0);
        isNone("c even, s odd", 0, -1, -1, 1, LEAST);
        isOne("c = 1", 0, 1, 1, 0, 1);
        isOne("c = -1", 0, 1, 1, -1, -1);
        isOne("c = 2^32 + 1", 0, 1, 1, 1, 1);
        isOne("c = -2^63 + 1", 0, 1, 1, LEAST, 1);
        isOne("s = 0", 0, 0, 0, 0, 1);
    }

    private void kindOneIsNotBothZero() {
        due.sentence("KIND 1: two ints a and b, not both 0");
        due.is("make(1, 0, 0)", new NumberStreams().make(1, 0, 0), -2);
        isNone("0 and 0", 1, 0, 0);
        int[][] good = {{0, 1}, {1, 0}, {0, -1}, {-1, 0}, {0, LEAST}, {LEAST, 0}, {1, -1}, {5, 5}};
        for (int[] ab : good) {
            due.is("make(1, " + ab[0] + ", " + ab[1] + ")", new NumberStreams().make(1, ab[0], ab[1]), 0);
            isOne("restored from " + ab[0] + " and " + ab[1], 1, ab);
        }
    }

    private void kindOneDropsWhatIsShiftedOut() {
        due.sentence("b becomes a ^ b; a becomes rotl(a, 26) ^ b ^ (b << 9); b becomes rotl(b, 13)");
        NumberStreams x = made(1, -1, -1);
        words("a = b = -1", x, 0, 492039004L, 492039004L, 2815836250L);
        state("a = b = -1, three steps", x, 0, 0x03FC0007, 0x003FE000);
        NumberStreams y = made(1, 5, 5);
        words("a = b = 5", y, 0, 1834772586L, 2147483743L, 100663396L);
        state("a = b = 5, three steps", y, 0, 0xB4044280, 0x0050028A);
        NumberStreams z = made(1, LEAST, 0);
        words("a = -2^31, b = 0", z, 0, 80, 3221225622L, 72220827L);
        state("a = -2^31, b = 0, three steps", z, 0, 0xD0282000, 0x00081045);
    }

    private void kindTwoIsZeroOrMore() {
        due.sentence("KIND 2: an int key and a long p, 0 or more");
        isNone("p = -1", 2, 1, -1, -1);
        isNone("p = -2^63", 2, 1, LEAST, 0);
        isNone("p = -2^63 + 1", 2, 1, LEAST, 1);
        isNone("p = -2^32", 2, 1, -1, 0);
        isOne("p = 0", 2, 1, 0, 0);
        isOne("p = 2^32 - 1", 2, 1, 0, -1);
        isOne("p = 2^31", 2, 1, 0, LEAST);
        isOne("p = 2^63 - 1", 2, 1, MOST, -1);
        isOne("key 0 and p = 0", 2, 0, 0, 0);
        isOne("key -1", 2, -1, 0, 0);
        due.sentence("kind 2: key a, p = b as a number");
        state("make(2, 0, 0)", made(2, 0, 0), 0, 0, 0, 0);
        state("make(2, -1, -1)", made(2, -1, -1), 0, -1, 0, -1);
        state("make(2, 1, -2^31)", made(2, 1, LEAST), 0, 1, 0, LEAST);
        state("make(2, 1, 2^31 - 1)", made(2, 1, MOST), 0, 1, 0, MOST);
    }

    private void kindTwoTakesXAndYInTurn() {
        due.sentence("The word is x if p is even, y if p is odd");
        words("key 0, p = 0", made(2, 0, 0), 0, 4280135257L, 1825639922L, 3705464917L, 1597692779L);
        words("key 0, p = 1", made(2, 0, 1), 0, 1825639922L, 3705464917L);
    }

    private void kindTwoCarriesOutOfALowerWord() {
        due.sentence("Let x = (int) (p >>> 1), y = (int) (p >>> 33)");
        NumberStreams x = made(2, LEAST, -1);
        words("p = 2^32 - 1", x, 0, 2613132965L, 28703891L, 3457989631L, 1696526297L);
        state("p = 2^32 + 3", x, 0, LEAST, 1, 3);
        NumberStreams y = restored(2, 3, 1, -1);
        words("p = 2^33 - 1", y, 0, 561834802L, 1323232375L, 882112297L, 436519603L);
        state("p = 2^33 + 3", y, 0, 3, 2, 3);
    }

    private void kindTwoWraps() {
        due.sentence("Then p grows by 1 (after 2^63 - 1 comes 0)");
        NumberStreams x = restored(2, 0, MOST, -1);
        words("key 0, p = 2^63 - 1", x, 0, 2342868936L, 4280135257L, 1825639922L);
        state("key 0, p after the wrap", x, 0, 0, 0, 2);
        NumberStreams y = restored(2, 7, MOST, -2);
        due.is("p = 2^63 - 2", y.next(0), 1884701947L);
        state("p = 2^63 - 1", y, 0, 7, MOST, -1);
        due.is("p = 2^63 - 1", y.next(0), 733066668L);
        state("p = 0", y, 0, 7, 0, 0);
        words("p = 0 with key 7", y, 0, 2602841801L, 2715116340L);
        due.is("a wrapped stream can be restored", y.restore(2), 1);
    }

    private void kindTwoWrapsInAJump() {
        due.sentence("Changes the state as k steps would");
        int[][] cases = {{-1, 1, 0}, {-1, 2, 1}, {-3, 2, -1}, {-3, 3, 0}, {-3, 65535, 65532}, {-65536, 65535, -1}};
        for (int[] c : cases) {
            NumberStreams x = restored(2, 7, MOST, c[0]);
            due.is("jump(0, " + c[1] + ")", x.jump(0, c[1]), true);
            state("p = 2^63 " + c[0] + ", " + c[1] + " steps", x, 0, 7, c[2] < 0 ? MOST : 0, c[2]);
        }
    }

    private void kindTwoWrapsInsideADraw() {
        due.sentence("a word is taken by a step .. (after 2^63 - 1 comes 0)");
        NumberStreams x = restored(2, 0, MOST, -1);
        due.is("draw(0, 256)", x.draw(0, 256), 2342868936L >>> 24);
        due.is("draw(0, 256) behind the wrap", x.draw(0, 256), 4280135257L >>> 24);
        state("p after the wrap", x, 0, 0, 0, 1);
    }

    private void kindTwoKeyWraps() {
        due.sentence("k grows by 0x9E3779B9");
        words("key -1, p = 0", made(2, -1, 0), 0, 3089493080L, 1421103065L, 262387221L, 336989743L);
        NumberStreams x = made(2, -1, -1);
        words("key -1, p = 2^32 - 1", x, 0, 2790311328L, 1972532479L, 2514322043L, 2470920089L);
        state("the key stays", x, 0, -1, 1, 3);
    }

    private void kindThreeHasRemaindersOnly() {
        due.sentence("KIND 3: two ints u and v, each 0 .. 2147483646");
        int[] wrong = {-1, LEAST, MOST, -MOST};
        for (int bad : wrong) {
            for (int fine : new int[] {0, 1, MOST - 1}) {
                due.is("make(3, " + bad + ", " + fine + ")", new NumberStreams().make(3, bad, fine), -2);
                due.is("make(3, " + fine + ", " + bad + ")", new NumberStreams().make(3, fine, bad), -2);
                isNone("restored from " + bad + " and " + fine, 3, bad, fine);
                isNone("restored from " + fine + " and " + bad, 3, fine, bad);
            }
            due.is("make(3, " + bad + ", " + bad + ")", new NumberStreams().make(3, bad, bad), -2);
            isNone("restored from " + bad + " twice", 3, bad, bad);
        }
        int[][] good = {{MOST - 1, MOST - 1}, {MOST - 1, 0}, {0, MOST - 1}, {MOST - 1, 1}, {1, MOST - 1}};
        for (int[] uv : good) {
            due.is("make(3, " + uv[0] + ", " + uv[1] + ")", new NumberStreams().make(3, uv[0], uv[1]), 0);
            isOne("restored from " + uv[0] + " and " + uv[1], 3, uv);
        }
    }

    private void kindThreeIsNotBothZero() {
        due.sentence("KIND 3: .. not both 0");
        due.is("make(3, 0, 0)", new NumberStreams().make(3, 0, 0), -2);
        isNone("0 and 0", 3, 0, 0);
        due.is("make(3, 0, 1)", new NumberStreams().make(3, 0, 1), 0);
        due.is("make(3, 1, 0)", new NumberStreams().make(3, 1, 0), 0);
        isOne("0 and 1", 3, 0, 1);
        isOne("1 and 0", 3, 1, 0);
    }

    private void kindThreeIsExact() {
        due.sentence("Let w = (1403580 * u + 810728 * v) mod 2147483647 (exact)");
        NumberStreams x = made(3, MOST - 1, MOST - 1);
        words("both greatest", x, 0, 4290538678L, 3194174977L, 167473986L);
        state("both greatest, three steps", x, 0, 0x04FDB9A1, 0x5F319F00);
        words("u greatest", made(3, MOST - 1, 0), 0, 4292160134L, 2704721637L, 2156914678L);
        words("v greatest", made(3, 0, MOST - 1), 0, 4293345838L, 489453341L, 2305526602L);
        words("least u", made(3, 1, 0), 0, 2807161L, 1590245658L, 2138052617L);
        words("least v", made(3, 0, 1), 0, 1621456L, 3805513954L, 1989440693L);
    }

    private void kindThreeWordWraps() {
        due.sentence("The word is 2 * w + (u & 1), wrapping");
        words("w = 2^31 - 2, u odd", made(3, 1, 1595983225), 0, 4294967293L, 4293781590L);
        words("w = 2^31 - 2, u even", made(3, 2, 1420111261), 0, 4294967292L, 435752L);
        words("w = 2^30, u odd", made(3, 1, 11942265), 0, 2147483649L, 3025036L);
        words("w = 2^30, u even", made(3, 2, 1983553948), 0, 2147483648L, 4646492L);
        words("w = 2^30 - 1, u odd", made(3, 1, 1783797454), 0, 2147483647L, 217877L);
        words("w = 2^30 - 1, u even", made(3, 2, 1607925490), 0, 2147483646L, 1839333L);
    }

    private void kindThreeTakesTheOldU() {
        due.sentence("then v becomes u and u becomes w");
        NumberStreams x = made(3, 1, 1971611683);
        x.next(0);
        state("w = 0", x, 0, 0, 1);
        NumberStreams y = made(3, 2, 1420111261);
        y.jump(0, 1);
        state("w = 2147483646", y, 0, MOST - 1, 2);
        due.is("it can be restored", y.restore(0), 1);
    }
}
