/** The edges of the sequence of points and of promises 15 to 17: the first and the last index, each coordinate. */
public final class PointEdgesTest {
    private static final int LAST = 1048575;
    private static final int LEAST = Integer.MIN_VALUE;
    private static final int MOST = Integer.MAX_VALUE;
    /** m(1) .. m(20) of coordinates 0 .. 3, counted apart from this program. */
    private static final int[][] M = {
        {1, 1, 1, 1, 1, 1, 1, 1, 1, 1, 1, 1, 1, 1, 1, 1, 1, 1, 1, 1},
        {1, 3, 5, 15, 17, 51, 85, 255, 257, 771, 1285, 3855, 4369, 13107, 21845, 65535, 65537, 196611, 327685, 983055},
        {1, 3, 3, 9, 29, 23, 71, 197, 209, 627, 1907, 1369, 4109, 12327, 12407, 36949, 119041, 94979, 291587, 809225},
        {1, 3, 1, 5, 31, 29, 81, 147, 433, 149, 719, 3693, 3841, 11523, 16641, 49925, 16671, 83229, 515921, 482707}};

    private final Due due = new Due();

    public static void main(String[] args) {
        PointEdgesTest test = new PointEdgesTest();
        test.theFirstIndex();
        test.theLastIndex();
        test.eachDirectionWord();
        test.wordsAreNumbers();
        test.thirteenDigitsOfBaseThree();
        test.nineDigitsOfBaseFive();
        test.seekToBothEnds();
        test.seekRefusesIndexes();
        test.advanceByOne();
        test.advanceGoesRound();
        test.coordinateRefuses();
        test.coordinateMovesNothing();
        test.due.end();
    }

    private void point(NumberStreams x, int i, long... wanted) {
        for (int d = 0; d < 6; d++) {
            due.is("point " + i + ", coordinate(" + d + ")", x.coordinate(d), wanted[d]);
        }
    }

    private void soughtPoint(int i, long... wanted) {
        NumberStreams x = new NumberStreams();
        due.is("seek(" + i + ")", x.seek(i), true);
        point(x, i, wanted);
    }

    private void theFirstIndex() {
        due.sentence("The sequence has an index i, 0 .. 1048575 (at first 0): the first");
        point(new NumberStreams(), 0, 0, 0, 0, 0, 0, 0);
        soughtPoint(0, 0, 0, 0, 0, 0, 0);
        soughtPoint(1, 1L << 31, 1L << 31, 1L << 31, 1L << 31, 531441, 390625);
        soughtPoint(2, 3L << 30, 1L << 30, 1L << 30, 1L << 30, 1062882, 781250);
    }

    private void theLastIndex() {
        due.sentence("The sequence has an index i, 0 .. 1048575 (at first 0): the last");
        soughtPoint(LAST, 4096, 4026593280L, 3314585600L, 1977167872L, 200311, 57567);
        soughtPoint(LAST - 1, 2147487744L, 1879109632L, 1167101952L, 4124651520L, 1086046, 1916942);
        soughtPoint(LAST - 2, 3221229568L, 2952851456L, 2240843776L, 903426048L, 554605, 1526317);
    }

    /** Of i ^ (i >>> 1) only bit j - 1 is 1 when i is 2^j - 1. */
    private void eachDirectionWord() {
        for (int j = 1; j <= 20; j++) {
            NumberStreams x = new NumberStreams();
            x.seek((1 << j) - 1);
            for (int d = 0; d < 4; d++) {
                due.sentence("V(j) = m(j) << (32 - j): coordinate " + d + ", j = " + j);
                due.is("coordinate(" + d + ")", x.coordinate(d), (long) M[d][j - 1] << (32 - j));
            }
        }
        due.sentence("for all j for which bit j - 1 of i ^ (i >>> 1) is 1");
        soughtPoint(524287, 8192, 2684395520L, 2388680704L, 4226424832L, 579471, 967831);
        soughtPoint(524288, 12288, 1342197760L, 1274081280L, 2385711104L, 1110912, 1358456);
    }

    private void wordsAreNumbers() {
        due.sentence("Promise 17: (a word as a number)");
        NumberStreams x = new NumberStreams();
        x.seek(1);
        for (int d = 0; d < 4; d++) {
            due.is("coordinate(" + d + ")", x.coordinate(d), 2147483648L);
        }
    }

    private void thirteenDigitsOfBaseThree() {
        due.sentence("the digits of i in base 3 (13 digits) .. turned round");
        int[][] turned = {{0, 0}, {1, 531441}, {2, 1062882}, {3, 177147}, {531440, 1594320}, {531441, 1}, {531442, 531442},
            {LAST, 200311}};
        for (int[] pair : turned) {
            NumberStreams x = new NumberStreams();
            x.seek(pair[0]);
            due.is("point " + pair[0] + ", coordinate(4)", x.coordinate(4), pair[1]);
        }
    }

    private void nineDigitsOfBaseFive() {
        due.sentence("the digits of i in base .. 5 (9 digits), turned round");
        int[][] turned = {{0, 0}, {1, 390625}, {4, 1562500}, {5, 78125}, {390624, 1953120}, {390625, 1}, {390626, 390626},
            {LAST, 57567}};
        for (int[] pair : turned) {
            NumberStreams x = new NumberStreams();
            x.seek(pair[0]);
            due.is("point " + pair[0] + ", coordinate(5)", x.coordinate(5), pair[1]);
        }
    }

    private void seekToBothEnds() {
        due.sentence("Promise 15: The index of the sequence of points becomes i, and true");
        NumberStreams x = new NumberStreams();
        due.is("seek(1048575)", x.seek(LAST), true);
        due.is("coordinate(4)", x.coordinate(4), 200311);
        due.is("seek(0)", x.seek(0), true);
        due.is("advance()", x.advance(), 1);
        due.is("seek(1048574)", x.seek(LAST - 1), true);
        due.is("advance()", x.advance(), LAST);
    }

    private void seekRefusesIndexes() {
        due.sentence("Promise 15: false when i is not 0 .. 1048575");
        NumberStreams x = new NumberStreams();
        x.seek(77);
        for (int i : new int[] {-1, LAST + 1, LAST + 2, 2 * LAST, -LAST, LEAST, MOST}) {
            due.is("seek(" + i + ")", x.seek(i), false);
            due.is("coordinate(4) after seek(" + i + ")", x.coordinate(4), 1397493);
        }
        due.is("advance()", x.advance(), 78);
    }

    private void advanceByOne() {
        due.sentence("Promise 16: The index grows by 1 .. Answers the new index");
        NumberStreams x = new NumberStreams();
        for (int i = 1; i <= 100; i++) {
            due.is("advance()", x.advance(), i);
            NumberStreams y = new NumberStreams();
            y.seek(i);
            for (int d = 0; d < 4; d++) {
                due.is("point " + i + ", coordinate(" + d + ")", x.coordinate(d), y.coordinate(d));
            }
        }
    }

    private void advanceGoesRound() {
        due.sentence("Promise 16: (1048575 becomes 0)");
        NumberStreams x = new NumberStreams();
        x.seek(LAST - 1);
        due.is("advance()", x.advance(), LAST);
        point(x, LAST, 4096, 4026593280L, 3314585600L, 1977167872L, 200311, 57567);
        due.is("advance()", x.advance(), 0);
        point(x, 0, 0, 0, 0, 0, 0, 0);
        due.is("advance()", x.advance(), 1);
        point(x, 1, 1L << 31, 1L << 31, 1L << 31, 1L << 31, 531441, 390625);
    }

    private void coordinateRefuses() {
        due.sentence("Promise 17: -1 when d is not 0 .. 5");
        for (int i : new int[] {0, 77, LAST}) {
            NumberStreams x = new NumberStreams();
            x.seek(i);
            for (int d : new int[] {-1, 6, 7, -6, 256, 65536, LEAST, MOST}) {
                due.is("point " + i + ", coordinate(" + d + ")", x.coordinate(d), -1);
            }
        }
    }

    private void coordinateMovesNothing() {
        due.sentence("Promise 17: Coordinate d of the point at the index");
        NumberStreams x = new NumberStreams();
        x.seek(LAST);
        for (int round = 0; round < 3; round++) {
            point(x, LAST, 4096, 4026593280L, 3314585600L, 1977167872L, 200311, 57567);
            due.is("coordinate(6)", x.coordinate(6), -1);
        }
        due.is("advance()", x.advance(), 0);
    }
}
