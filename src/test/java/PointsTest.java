/** Promises 15 to 17: the sequence of points. */
public final class PointsTest {
    private static final int LAST = 1048575;

    private final Due due = new Due();

    public static void main(String[] args) {
        PointsTest test = new PointsTest();
        test.firstPoints();
        test.seekMovesAndRefuses();
        test.advanceGoesRound();
        test.coordinateRefuses();
        test.pointsAreSpreadEvenly();
        test.turnedDigitsOfPowers();
        test.manyPoints();
        test.due.end();
    }

    private void coordinates(String point, NumberStreams x, long... wanted) {
        for (int d = 0; d < wanted.length; d++) {
            due.is(point + ", coordinate(" + d + ")", x.coordinate(d), wanted[d]);
        }
    }

    /** In quarters and eighths of 2^32, 3^13 and 5^9, as the known Sobol and Halton sequences have them. */
    private void firstPoints() {
        long eighth = 1L << 29;
        NumberStreams x = new NumberStreams();
        coordinates("point 0", x, 0, 0, 0, 0, 0, 0);
        due.is("advance()", x.advance(), 1);
        coordinates("point 1", x, 4 * eighth, 4 * eighth, 4 * eighth, 4 * eighth, 531441, 390625);
        due.is("advance()", x.advance(), 2);
        coordinates("point 2", x, 6 * eighth, 2 * eighth, 2 * eighth, 2 * eighth, 2 * 531441, 2 * 390625);
        due.is("advance()", x.advance(), 3);
        coordinates("point 3", x, 2 * eighth, 6 * eighth, 6 * eighth, 6 * eighth, 177147, 3 * 390625);
        due.is("advance()", x.advance(), 4);
        coordinates("point 4", x, 3 * eighth, 3 * eighth, 5 * eighth, 7 * eighth, 531441 + 177147, 4 * 390625);
        due.is("advance()", x.advance(), 5);
        coordinates("point 5", x, 7 * eighth, 7 * eighth, 1 * eighth, 3 * eighth, 2 * 531441 + 177147, 78125);
    }

    private void seekMovesAndRefuses() {
        NumberStreams x = new NumberStreams();
        due.is("seek(7)", x.seek(7), true);
        for (int i : new int[] {-1, LAST + 1, Integer.MIN_VALUE, Integer.MAX_VALUE}) {
            due.is("seek(" + i + ")", x.seek(i), false);
        }
        due.is("a refused seek changes nothing", x.advance(), 8);
        due.is("seek(0)", x.seek(0), true);
        coordinates("point 0", x, 0, 0, 0, 0, 0, 0);
        due.is("seek(LAST)", x.seek(LAST), true);
        due.is("the last point in coordinate 0", x.coordinate(0), 1L << 12);
        due.is("the last point in coordinate 3", x.coordinate(3), 1977167872L);
    }

    private void advanceGoesRound() {
        NumberStreams x = new NumberStreams();
        x.seek(LAST - 1);
        due.is("advance()", x.advance(), LAST);
        due.is("advance() from the last", x.advance(), 0);
        coordinates("point 0 again", x, 0, 0, 0, 0, 0, 0);
        due.is("advance()", x.advance(), 1);
    }

    private void coordinateRefuses() {
        NumberStreams x = new NumberStreams();
        x.seek(99);
        for (int d : new int[] {-1, 6, 7, Integer.MIN_VALUE, Integer.MAX_VALUE}) {
            due.is("coordinate(" + d + ")", x.coordinate(d), -1);
        }
        due.is("coordinate() moves nothing", x.advance(), 100);
    }

    /** Of the first 2^r points each lies in another one of the 2^r equal parts of a line. */
    private void pointsAreSpreadEvenly() {
        for (int d = 0; d < 4; d++) {
            boolean[] met = new boolean[256];
            NumberStreams x = new NumberStreams();
            for (int i = 0; i < 256; i++) {
                int part = (int) (x.coordinate(d) >>> 24);
                due.is("coordinate(" + d + ") of point " + i + " in a part met before", met[part], false);
                met[part] = true;
                x.advance();
            }
        }
    }

    private void turnedDigitsOfPowers() {
        NumberStreams x = new NumberStreams();
        long turned = 1594323;
        for (int power = 1; power <= LAST; power *= 3) {
            turned /= 3;
            x.seek(power);
            due.is("base 3, " + power, x.coordinate(4), turned);
        }
        turned = 1953125;
        for (int power = 1; power <= LAST; power *= 5) {
            turned /= 5;
            x.seek(power);
            due.is("base 5, " + power, x.coordinate(5), turned);
        }
    }

    private void manyPoints() {
        Model model = new Model();
        for (int i = 0; i <= LAST; i += 997) {
            NumberStreams x = new NumberStreams();
            x.seek(i);
            model.seek(i);
            for (int d = 0; d < 6; d++) {
                due.is("point " + i + ", coordinate(" + d + ")", x.coordinate(d), model.coordinate(d));
            }
        }
        NumberStreams x = new NumberStreams();
        for (int bit = 0; bit < 20; bit++) {
            x.seek(1 << bit);
            model.seek(1 << bit);
            for (int d = 0; d < 6; d++) {
                due.is("point " + (1 << bit) + ", coordinate(" + d + ")", x.coordinate(d), model.coordinate(d));
            }
        }
    }
}
