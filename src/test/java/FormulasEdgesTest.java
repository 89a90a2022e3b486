/** The edges that the document names for formulas, by values and BY RANGES. */
public final class FormulasEdgesTest {
    private static final int NUMBER = 2;
    private static final int RANGE = 3;
    private static final int FARTHEST = 1000000;
    private static final int PLUS = 10;
    private static final int MINUS = 11;
    private static final int TIMES = 12;
    private static final int DIVIDE = 13;
    private static final int LESSER = 14;
    private static final int GREATER = 15;
    private static final int NEGATE = 16;

    private FormulasEdgesTest() {
    }

    public static void main(String[] args) {
        oneToTwelveWords();
        namesLayFields();
        literals();
        lowerOpUpper();
        divisionAsInJava();
        lesserAndGreater();
        lessThanNothing();
        neverTakeWhatIsNotThere();
        leaveJustOne();
        rangeOfFieldOrNumber();
        fourPairsOfEnds();
        twoEndsOfNegation();
        divisionTraps();
        endsThatAreTooFar();
        productsThatWrapAround();
        Expect.end();
    }

    /** A heap whose only record, in root 0, has numbers 0, 1, .. with these values and no other in their ranges. */
    private static MigrantHeap values(int... values) {
        MigrantHeap x = Expect.heap(1);
        x.make(0, 0);
        for (int i = 0; i < values.length; i++) {
            far(x, i, values[i], values[i]);
        }
        return x;
    }

    /** Gives class 0 a number, by a change, whose range may be far from what a literal is. */
    private static void far(MigrantHeap x, int name, int low, int high) {
        Expect.number(x, name, -FARTHEST, FARTHEST, 200);
        x.step(RANGE, name, low, high, 1);
        x.change(0);
    }

    /** What the formula makes of fields 0, 1, .. with these values. */
    private static void makes(int due, int[] fields, int... words) {
        MigrantHeap x = values(fields);
        Expect.number(x, 9, -FARTHEST, FARTHEST, words);
        x.change(0);
        Expect.equal(text(words) + " of " + text(fields), x.get(0, 9), due);
    }

    private static String text(int... row) {
        return java.util.Arrays.toString(row);
    }

    private static void oneToTwelveWords() {
        Expect.sentence("FORMULAS are 1 to 12 WORDS");
        MigrantHeap x = Expect.heap(1);
        x.make(0, 0);
        Expect.argument("none", () -> x.step(NUMBER, 0, 0, 9, 0));
        Expect.number(x, 0, 1, 1, 201);
        Expect.equal("one word", x.change(0), 1);
        int[] twelve = {201, 202, 203, 204, 205, 206, PLUS, PLUS, PLUS, PLUS, PLUS, NEGATE};
        Expect.number(x, 1, -21, -21, twelve);
        Expect.equal("twelve words", x.change(0), 2);
        Expect.equal("one word's value", x.get(0, 0), 1);
        Expect.equal("twelve words' value", x.get(0, 1), -21);
        Expect.words(x, twelve);
        Expect.state("a thirteenth", () -> x.word(NEGATE));
    }

    private static void namesLayFields() {
        Expect.sentence("0 .. 9 lay the value of the old field with this name on it");
        MigrantHeap x = Expect.heap(1);
        x.make(0, 0);
        Expect.number(x, 0, 5, 5, 205);
        Expect.number(x, 9, 7, 7, 207);
        x.change(0);
        Expect.number(x, 1, 5, 5, 0);
        Expect.number(x, 2, 7, 7, 9);
        Expect.equal("change(0)", x.change(0), 2);
        Expect.equal("the name 0", x.get(0, 1), 5);
        Expect.equal("the name 9", x.get(0, 2), 7);
        x.set(0, 1, 5);
        far(x, 3, 2, 4);
        x.set(0, 3, 3);
        Expect.number(x, 4, 2, 4, 3);
        x.change(0);
        Expect.equal("the value, not an end of the range", x.get(0, 4), 3);
    }

    private static void literals() {
        Expect.sentence("100 .. 300 lay the number less 200");
        int[][] due = {{100, -100}, {101, -99}, {199, -1}, {200, 0}, {201, 1}, {299, 99}, {300, 100}};
        for (int[] pair : due) {
            makes(pair[1], new int[0], pair[0]);
        }
        MigrantHeap x = Expect.heap(1);
        for (int wrong : new int[] {99, 301}) {
            Expect.argument("word(" + wrong + ")", () -> x.word(wrong));
        }
    }

    private static void lowerOpUpper() {
        Expect.sentence("take the upper two away and lay x op y, x being the lower one");
        int[] fields = {20, 6};
        makes(26, fields, 0, 1, PLUS);
        makes(14, fields, 0, 1, MINUS);
        makes(-14, fields, 1, 0, MINUS);
        makes(120, fields, 0, 1, TIMES);
        makes(3, fields, 0, 1, DIVIDE);
        makes(0, fields, 1, 0, DIVIDE);
        makes(20 - (6 - 1), fields, 0, 1, 201, MINUS, MINUS);
        makes((20 - 6) - 1, fields, 0, 1, MINUS, 201, MINUS);
        makes(20 + 6 * 2, fields, 0, 1, 202, TIMES, PLUS);
    }

    private static void divisionAsInJava() {
        Expect.sentence("13 / (the part before the point, as in Java)");
        int[][] due = {
            {7, 2, 3}, {-7, 2, -3}, {7, -2, -3}, {-7, -2, 3}, {1, 2, 0}, {-1, 2, 0}, {1, -2, 0}, {6, 3, 2},
            {-6, 3, -2}, {0, -5, 0}, {5, 1, 5}, {5, -1, -5}, {FARTHEST, -FARTHEST, -1}, {FARTHEST - 1, FARTHEST, 0},
        };
        for (int[] d : due) {
            makes(d[2], new int[] {d[0], d[1]}, 0, 1, DIVIDE);
        }
    }

    private static void lesserAndGreater() {
        Expect.sentence("14 the lesser 15 the greater");
        int[][] due = {{3, 4, 3, 4}, {4, 3, 3, 4}, {5, 5, 5, 5}, {-3, 3, -3, 3}, {-3, -4, -4, -3}, {0, -1, -1, 0}};
        for (int[] d : due) {
            int[] fields = {d[0], d[1]};
            makes(d[2], fields, 0, 1, LESSER);
            makes(d[3], fields, 0, 1, GREATER);
        }
    }

    private static void lessThanNothing() {
        Expect.sentence("16 lays what is less than nothing by as much as the upper one is more");
        for (int value : new int[] {0, 1, -1, FARTHEST, -FARTHEST}) {
            makes(-value, new int[] {value}, 0, NEGATE);
            makes(value, new int[] {value}, 0, NEGATE, NEGATE);
        }
        makes(8, new int[] {5, 3}, 0, 1, NEGATE, MINUS);
    }

    private static void notRight(int... words) {
        MigrantHeap x = Expect.heap(1);
        Expect.words(x, words);
        Expect.argument(text(words), () -> x.step(NUMBER, 0, -FARTHEST, FARTHEST, 0));
    }

    private static void isRight(int... words) {
        MigrantHeap x = Expect.heap(1);
        Expect.words(x, words);
        Expect.equal(text(words), x.step(NUMBER, 0, -FARTHEST, FARTHEST, 0), 1);
    }

    private static void neverTakeWhatIsNotThere() {
        Expect.sentence("They are RIGHT if they never take from what is not there");
        notRight(NEGATE);
        notRight(NEGATE, 200);
        isRight(200, NEGATE);
        for (int w = PLUS; w <= GREATER; w++) {
            notRight(w);
            notRight(200, w);
            notRight(200, w, 200);
            notRight(200, NEGATE, w, 200);
            notRight(200, w, 200, w);
            notRight(0, 200, 200, w, w, w);
            isRight(200, 200, w);
            isRight(0, 200, 9, w, w);
            isRight(0, 200, w, 9, w);
        }
    }

    private static void leaveJustOne() {
        Expect.sentence("and leave just one");
        notRight();
        notRight(200, 200);
        notRight(0, 1);
        notRight(200, 200, NEGATE);
        notRight(200, 200, 200, PLUS);
        notRight(0, 0, 0, 0, 0, 0, 0, 0, 0, 0, 0, 0);
        notRight(0, 0, 0, 0, 0, 0, 0, PLUS, PLUS, PLUS, PLUS, PLUS);
        isRight(0);
        isRight(0, 0, 0, 0, 0, 0, NEGATE, PLUS, PLUS, PLUS, PLUS, PLUS);
    }

    /** The formula's range must be just low .. high: no narrower one takes it. */
    private static void ranges(MigrantHeap x, int low, int high, int... words) {
        String what = text(words) + " from " + low + " to " + high;
        if (low < high) {
            Expect.number(x, 9, low + 1, high, words);
            Expect.refused(what + ", one too high at the low end", x, 0, 0);
            Expect.number(x, 9, low, high - 1, words);
            Expect.refused(what + ", one too low at the high end", x, 0, 0);
        } else {
            Expect.number(x, 9, low + 1, high + 1, words);
            Expect.refused(what + ", one too high", x, 0, 0);
            Expect.number(x, 9, low - 1, high - 1, words);
            Expect.refused(what + ", one too low", x, 0, 0);
        }
        int version = x.about(0, 0);
        Expect.number(x, 9, low, high, words);
        Expect.equal(what, x.change(0), version + 1);
        x.takeBack(0);
    }

    /** The numbers 0 (-3 .. 5), 1 (2 .. 4), 2 (-4 .. -1) and 3 (0 .. 6). */
    private static MigrantHeap fourRanges() {
        MigrantHeap x = Expect.heap(1);
        far(x, 0, -3, 5);
        far(x, 1, 2, 4);
        far(x, 2, -4, -1);
        far(x, 3, 0, 6);
        return x;
    }

    private static void rangeOfFieldOrNumber() {
        Expect.sentence("each word lays a range instead: that of the field, or of the number alone");
        MigrantHeap x = fourRanges();
        x.make(0, 0);
        ranges(x, -3, 5, 0);
        ranges(x, 2, 4, 1);
        ranges(x, -4, -1, 2);
        ranges(x, 0, 6, 3);
        ranges(x, 7, 7, 207);
        ranges(x, -100, -100, 100);
    }

    private static void fourPairsOfEnds() {
        Expect.sentence("for two ranges the least and greatest of what comes of their four pairs of ends");
        MigrantHeap x = fourRanges();
        ranges(x, -1, 9, 0, 1, PLUS);
        ranges(x, -7, 3, 0, 1, MINUS);
        ranges(x, -2, 9, 0, 2, MINUS);
        ranges(x, -8, 8, 0, 0, MINUS);
        ranges(x, -12, 20, 0, 1, TIMES);
        ranges(x, -20, 12, 0, 2, TIMES);
        ranges(x, -16, -2, 1, 2, TIMES);
        ranges(x, 1, 16, 2, 2, TIMES);
        ranges(x, -15, 25, 0, 0, TIMES);
        ranges(x, -24, 0, 3, 2, TIMES);
        MigrantHeap y = fourRanges();
        ranges(y, -1, 2, 0, 1, DIVIDE);
        ranges(y, -5, 3, 0, 2, DIVIDE);
        ranges(y, -2, 0, 2, 1, DIVIDE);
        ranges(y, -6, 0, 3, 2, DIVIDE);
        ranges(y, 0, 2, 1, 1, DIVIDE);
        ranges(y, -3, 4, 0, 1, LESSER);
        ranges(y, -4, -1, 0, 2, LESSER);
        ranges(y, 2, 5, 0, 1, GREATER);
        ranges(y, -3, 5, 0, 2, GREATER);
        ranges(y, 0, 6, 0, 3, GREATER);
    }

    private static void twoEndsOfNegation() {
        Expect.sentence("(16: of its two)");
        MigrantHeap x = fourRanges();
        ranges(x, -5, 3, 0, NEGATE);
        ranges(x, -4, -2, 1, NEGATE);
        ranges(x, 1, 4, 2, NEGATE);
        ranges(x, -6, 0, 3, NEGATE);
    }

    private static MigrantHeap withRange(int low, int high) {
        MigrantHeap x = Expect.heap(1);
        far(x, 0, low, high);
        return x;
    }

    private static void traps(int low, int high, int... words) {
        MigrantHeap x = withRange(low, high);
        Expect.number(x, 1, -FARTHEST, FARTHEST, words);
        Expect.refused(text(words) + " of " + low + " .. " + high, x, 0, 0);
    }

    private static void fits(int low, int high, int... words) {
        MigrantHeap x = withRange(low, high);
        Expect.number(x, 1, -FARTHEST, FARTHEST, words);
        Expect.equal(text(words) + " of " + low + " .. " + high, x.change(0), 2);
    }

    private static void divisionTraps() {
        Expect.sentence("/ TRAPS when the upper one has 0 in it");
        traps(0, 0, 201, 0, DIVIDE);
        traps(0, 9, 201, 0, DIVIDE);
        traps(-9, 0, 201, 0, DIVIDE);
        traps(-9, 9, 201, 0, DIVIDE);
        traps(1, 9, 0, 200, DIVIDE);
        traps(3, 5, 201, 0, 204, MINUS, DIVIDE);
        traps(0, 0, 200, 0, DIVIDE);
        traps(0, 9, 201, 0, DIVIDE, 200, TIMES);
        fits(1, 9, 201, 0, DIVIDE);
        fits(-9, -1, 201, 0, DIVIDE);
        fits(-9, 9, 0, 201, DIVIDE);
        fits(0, 0, 0, 201, DIVIDE);
        fits(3, 5, 201, 0, 206, MINUS, DIVIDE);
    }

    /** Field 0 is a million alone, so that its square is the farthest that an end may be. */
    private static void endsThatAreTooFar() {
        Expect.sentence("any word when an end would be below -1000000000000 or above 1000000000000");
        int m = FARTHEST;
        fits(m, m, 0, 0, TIMES, 0, DIVIDE);
        fits(m, m, 0, 0, TIMES, NEGATE, 0, DIVIDE);
        fits(m, m, 0, 0, TIMES, 200, PLUS, 0, DIVIDE);
        fits(m, m, 0, 0, TIMES, 199, PLUS, 0, DIVIDE);
        fits(m, m, 0, 0, TIMES, 201, DIVIDE, 0, DIVIDE);
        traps(m, m, 0, 0, TIMES, 201, PLUS, 0, DIVIDE);
        traps(m, m, 0, 0, TIMES, 199, MINUS, 0, DIVIDE);
        traps(m, m, 0, 0, TIMES, NEGATE, 201, MINUS, 0, DIVIDE);
        traps(m, m, 0, 0, TIMES, NEGATE, 199, PLUS, 0, DIVIDE);
        traps(m, m, 0, 0, TIMES, 202, TIMES, 0, DIVIDE);
        traps(m, m, 0, 0, TIMES, 198, TIMES, 0, DIVIDE);
        // It traps though the range would be narrow enough behind it.
        traps(m, m, 0, 0, TIMES, 201, PLUS, 200, LESSER);
        traps(m, m, 0, 0, TIMES, 201, PLUS, 200, TIMES);
        // One end alone is too far.
        traps(0, m, 0, 0, TIMES, 201, PLUS, 200, LESSER);
        traps(0, m, 0, NEGATE, 0, TIMES, 201, MINUS, 200, GREATER);
        fits(0, m - 1, 0, 0, TIMES, 201, PLUS, 200, LESSER);
        fits(-m, m, 0, 0, TIMES, 200, LESSER, 200, GREATER);
        traps(-m, m, 0, 0, TIMES, 201, MINUS, 200, LESSER, 200, GREATER);
    }

    /** 65536 squared is 0 as an int, and squared again 0 as a long. */
    private static void productsThatWrapAround() {
        Expect.sentence("any word when an end would be .. above 1000000000000");
        int w = 65536;
        traps(w, w, 0, 0, TIMES, 0, 0, TIMES, TIMES);
        traps(w, w, 0, 0, TIMES, NEGATE, 0, 0, TIMES, TIMES);
        traps(0, w, 0, 0, TIMES, 0, 0, TIMES, TIMES, 200, TIMES);
        traps(-w, w, 0, 0, TIMES, 0, 0, TIMES, TIMES, 200, TIMES);
        traps(FARTHEST, FARTHEST, 0, 0, TIMES, 0, 0, TIMES, TIMES, 200, TIMES);
        makes(1, new int[] {w}, 0, 0, TIMES, 0, DIVIDE, 0, DIVIDE);
        makes(FARTHEST, new int[] {FARTHEST}, 0, 0, TIMES, 0, DIVIDE);
        makes(-FARTHEST, new int[] {-FARTHEST}, 0, 0, TIMES, 0, DIVIDE);
        makes(-1, new int[] {FARTHEST}, 0, 0, TIMES, 0, 0, NEGATE, TIMES, DIVIDE);
        makes(0, new int[] {w}, 0, 0, TIMES, 200, LESSER);
    }
}
