/** Promises 10 to 13 and 18 to 20: words, scripts and their steps, changes and taking them back. */
public final class ScriptsTest {
    private static final int DROP = 0;
    private static final int NAME = 1;
    private static final int NUMBER = 2;
    private static final int RANGE = 3;
    private static final int REFERENCE = 4;
    private static final int SPLIT = 5;
    private static final int JOIN = 6;
    private static final int FARTHEST = 1000000;

    private ScriptsTest() {
    }

    public static void main(String[] args) {
        promise10Word();
        promise11Step();
        promise11StepArguments();
        promise11Formulas();
        promise12Change();
        promise12ChangeTenVersions();
        stepDrop();
        stepName();
        stepNumber();
        stepNumberIsOfOldFields();
        stepRange();
        stepReference();
        stepSplit();
        stepSplitRefused();
        stepSplitRoom();
        stepJoin();
        stepJoinRefused();
        stepJoinThenSplit();
        formulaValues();
        formulaRanges();
        formulaTraps();
        promise13TakeBack();
        promise13TakeBackReferences();
        promise13TakeBackBarred();
        promise13TakeBackBarredByOthers();
        promise18About();
        promise19Field();
        promise20Fault();
        Expect.end();
    }

    private static void promise10Word() {
        MigrantHeap x = Expect.heap(1);
        int[] right = {0, 9, 10, 16, 100, 300};
        for (int i = 0; i < right.length; i++) {
            Expect.equal("word(" + right[i] + ")", x.word(right[i]), i + 1);
        }
        for (int wrong : new int[] {-1, 17, 99, 301, Integer.MIN_VALUE, Integer.MAX_VALUE}) {
            Expect.argument("word(" + wrong + ")", () -> x.word(wrong));
        }
        for (int i = 7; i <= 12; i++) {
            Expect.equal("word(200)", x.word(200), i);
        }
        Expect.state("the 13th word", () -> x.word(200));
        Expect.argument("no word goes before twelve wait", () -> x.word(17));
    }

    private static void promise11Step() {
        MigrantHeap x = Expect.heap(1);
        x.word(205);
        Expect.equal("a step of another kind", x.step(DROP, 1, -9, -9, -9), 1);
        Expect.equal("it leaves the words", x.word(206), 2);
        Expect.argument("a formula that leaves two", () -> x.step(NUMBER, 1, 0, 9, 0));
        Expect.equal("words still wait", x.word(10), 3);
        Expect.equal("NUMBER takes the words", x.step(NUMBER, 1, 0, 11, 7), 2);
        Expect.equal("no word waits then", x.word(207), 1);
        for (int i = 3; i <= 6; i++) {
            Expect.equal("a step", x.step(JOIN, 1, 99, 99, 99), i);
        }
        Expect.state("the seventh step", () -> x.step(DROP, 0, 0, 0, 0));
        Expect.state("the seventh step, a NUMBER", () -> x.step(NUMBER, 0, 0, 9, 0));
        Expect.equal("the words of it still wait", x.word(16), 2);
        Expect.argument("no step goes before six wait", () -> x.step(DROP, 10, 0, 0, 0));
        x.word(10);
        Expect.argument("no formula goes before six wait", () -> x.step(NUMBER, 0, 0, 9, 0));
    }

    private static void promise11StepArguments() {
        MigrantHeap x = Expect.heap(2);
        int[][] wrong = {
            {-1, 0, 0, 0, 0}, {7, 0, 0, 0, 0}, {DROP, 10, 0, 0, 0}, {DROP, -1, 0, 0, 0},
            {NAME, 10, 0, 0, 0}, {NAME, 0, 10, 0, 0}, {NAME, 0, -1, 0, 0},
            {NUMBER, 10, 0, 5, 0}, {NUMBER, 0, 6, 5, 0}, {NUMBER, 0, -FARTHEST - 1, 5, 0},
            {NUMBER, 0, 0, FARTHEST + 1, 0}, {RANGE, 10, 0, 5, 0}, {RANGE, 0, 6, 5, 0},
            {RANGE, 0, -FARTHEST - 1, 5, 0}, {RANGE, 0, 0, FARTHEST + 1, 0}, {RANGE, 0, 0, 5, 2},
            {RANGE, 0, 0, 5, -1}, {REFERENCE, 10, 0, 0, 0}, {REFERENCE, 0, 2, 0, 0},
            {REFERENCE, 0, -1, 0, 0}, {SPLIT, 10, 1, 1, 0}, {SPLIT, 0, 2, 1, 0}, {SPLIT, 0, -1, 1, 0},
            {SPLIT, 0, 1, 0, 0}, {SPLIT, 0, 1, 1024, 0}, {SPLIT, 0, 1, -1, 0}, {JOIN, 10, 0, 0, 0},
            {JOIN, -1, 0, 0, 0},
        };
        x.word(200);
        for (int[] s : wrong) {
            Expect.argument("step(" + s[0] + ", " + s[1] + ", " + s[2] + ", " + s[3] + ", " + s[4] + ")",
                    () -> x.step(s[0], s[1], s[2], s[3], s[4]));
        }
        Expect.argument("none of them waits", () -> x.change(0));
        int[][] right = {
            {DROP, 9, -1, -1, -1}, {NAME, 9, 0, -1, -1}, {NUMBER, 9, -FARTHEST, FARTHEST, -1},
            {RANGE, 0, 5, 5, 1}, {REFERENCE, 0, 1, -1, -1}, {SPLIT, 0, 0, 1023, -1},
        };
        for (int i = 0; i < right.length; i++) {
            int[] s = right[i];
            Expect.equal("a step of kind " + s[0], x.step(s[0], s[1], s[2], s[3], s[4]), i + 1);
        }
    }

    private static void promise11Formulas() {
        int[][] wrong = {{}, {10}, {200, 10}, {16}, {200, 200}, {200, 10, 200}, {200, 200, 10, 10}, {0, 1, 2, 15}};
        for (int[] words : wrong) {
            MigrantHeap x = Expect.heap(1);
            Expect.words(x, words);
            Expect.argument("a formula of " + words.length + " words that is not right",
                    () -> x.step(NUMBER, 0, 0, 0, 0));
        }
        int[][] right = {{200}, {0}, {9, 16, 16}, {200, 1, 15}, {1, 2, 3, 4, 5, 6, 10, 11, 12, 13, 14, 16}};
        for (int[] words : right) {
            MigrantHeap x = Expect.heap(1);
            Expect.words(x, words);
            Expect.equal("a formula of " + words.length + " words", x.step(NUMBER, 0, 0, 0, 0), 1);
        }
    }

    private static void promise12Change() {
        MigrantHeap x = Expect.heap(2);
        x.make(0, 0);
        Expect.argument("no step waits", () -> x.change(0));
        Expect.number(x, 1, 0, 5, 203);
        Expect.argument("change(2)", () -> x.change(2));
        Expect.argument("change(-1)", () -> x.change(-1));
        Expect.equal("the step still waits", x.step(NAME, 1, 2, 0, 0), 2);
        x.word(200);
        Expect.equal("change(0)", x.change(0), 1);
        Expect.equal("words still wait", x.word(201), 2);
        Expect.argument("no step waits then", () -> x.change(0));
        Expect.equal("the record is not touched", x.versionOf(0), 0);
        Expect.equal("both steps were done", x.get(0, 2), 3);
        x.step(NAME, 2, 3, 0, 0);
        x.step(DROP, 9, 0, 0, 0);
        Expect.refused("a script whose second step can't be done", x, 0, 1);
        Expect.argument("no step waits after a refused one", () -> x.change(0));
        Expect.equal("what is refused changes nothing", x.get(0, 2), 3);
        Expect.equal("nor the version", x.about(0, 0), 1);
        Expect.equal("nor the other class", x.about(1, 0), 0);
    }

    private static void promise12ChangeTenVersions() {
        MigrantHeap x = Expect.heap(1);
        Expect.addNumber(x, 0, 0, 0, 5, 3);
        for (int i = 2; i <= 9; i++) {
            Expect.equal("change(0)", Expect.change(x, 0, NAME, i - 2, i - 1), i);
        }
        x.step(DROP, 9, 0, 0, 0);
        Expect.refused("the eleventh version", x, 0, -1);
        Expect.argument("no step waits then", () -> x.change(0));
        x.step(DROP, 0, 0, 0, 0);
        Expect.equal("takeBack makes room", x.takeBack(0), 0);
        Expect.refused("a wrong step then", x, 0, 0);
        Expect.equal("version 9 again", Expect.change(x, 0, DROP, 7), 9);
        x.newClass();
        x.step(DROP, 0, 0, 0, 0);
        Expect.refused("another class", x, 1, 0);
        x.step(REFERENCE, 0, 0, 0, 0);
        Expect.refused("the eleventh version again", x, 0, -1);
    }

    private static void stepDrop() {
        MigrantHeap x = numbers(0, 1, 2);
        x.make(0, 0);
        x.set(0, 2, 7);
        Expect.change(x, 0, DROP, 1);
        Expect.noElement("a dropped field", () -> x.get(0, 1));
        Expect.equal("the one behind it", x.get(0, 2), 7);
        Expect.equal("its place", x.field(0, 1, 0), 2);
        x.step(DROP, 1, 0, 0, 0);
        Expect.refused("a field that is not there", x, 0, 0);
        x.step(DROP, 0, 0, 0, 0);
        x.step(DROP, 0, 0, 0, 0);
        Expect.refused("a field that went before", x, 0, 1);
        Expect.change(x, 0, REFERENCE, 5, 0);
        Expect.change(x, 0, DROP, 5);
        Expect.equal("a reference goes", x.about(0, 3), 2);
    }

    private static void stepName() {
        MigrantHeap x = numbers(0, 1);
        x.make(0, 0);
        x.set(0, 0, 3);
        x.set(0, 1, 4);
        x.step(NAME, 0, 9, 0, 0);
        x.step(NAME, 1, 0, 0, 0);
        x.step(NAME, 9, 1, 0, 0);
        x.change(0);
        Expect.equal("exchanged", x.get(0, 0), 4);
        Expect.equal("exchanged", x.get(0, 1), 3);
        Expect.equal("the order stays", x.field(0, 0, 0), 1);
        x.step(NAME, 0, 1, 0, 0);
        Expect.refused("a name that is there", x, 0, 0);
        x.step(NAME, 0, 0, 0, 0);
        Expect.refused("its own name", x, 0, 0);
        x.step(NAME, 5, 6, 0, 0);
        Expect.refused("no such field", x, 0, 0);
    }

    /** A heap whose class 0 has numbers of these names from -9 to 9. */
    private static MigrantHeap numbers(int... names) {
        MigrantHeap x = Expect.heap(3);
        for (int name : names) {
            Expect.number(x, name, -9, 9, 200);
        }
        x.change(0);
        return x;
    }

    private static void stepNumber() {
        MigrantHeap x = numbers(0, 1, 2, 3, 4);
        Expect.number(x, 4, 0, 5, 200);
        Expect.refused("a name that is there", x, 0, 0);
        Expect.number(x, 5, 0, 5, 6);
        Expect.refused("a field that is not there", x, 0, 0);
        Expect.number(x, 5, -9, 8, 1);
        Expect.refused("a range that reaches above", x, 0, 0);
        Expect.number(x, 5, -8, 9, 1);
        Expect.refused("a range that reaches below", x, 0, 0);
        Expect.number(x, 5, -9, 9, 1);
        Expect.number(x, 6, 0, 0, 200);
        Expect.refused("a seventh field", x, 0, 1);
        x.step(REFERENCE, 5, 1, 0, 0);
        x.change(0);
        x.step(DROP, 0, 0, 0, 0);
        Expect.number(x, 6, -9, 9, 5);
        Expect.refused("a reference in a formula", x, 0, 1);
        x.step(DROP, 0, 0, 0, 0);
        Expect.number(x, 0, -9, 9, 0);
        Expect.equal("a dropped name may come again", x.change(0), 3);
        Expect.equal("it comes last", x.field(0, 5, 0), 0);
    }

    private static void stepNumberIsOfOldFields() {
        MigrantHeap x = numbers(0, 1);
        x.make(0, 0);
        x.set(0, 0, 7);
        x.set(0, 1, 2);
        x.step(RANGE, 0, -3, 3, 1);
        Expect.number(x, 4, -9, 9, 0);
        x.step(NAME, 1, 5, 0, 0);
        x.step(DROP, 0, 0, 0, 0);
        Expect.number(x, 0, -18, 18, 0, 1, 10);
        x.change(0);
        Expect.equal("the value before it was cut", x.get(0, 4), 7);
        Expect.equal("of a dropped and a renamed one", x.get(0, 0), 9);
        Expect.equal("the renamed one", x.get(0, 5), 2);
        x.step(RANGE, 4, -3, 3, 1);
        Expect.number(x, 6, -3, 3, 4);
        Expect.refused("the old range counts", x, 0, 1);
        x.step(NAME, 4, 6, 0, 0);
        Expect.number(x, 7, -9, 9, 6);
        Expect.refused("the new name does not count", x, 0, 1);
        Expect.number(x, 6, 0, 5, 201);
        Expect.number(x, 7, 0, 5, 6);
        Expect.refused("a number of the same script does not count", x, 0, 1);
    }

    private static void stepRange() {
        MigrantHeap x = numbers(0, 1);
        for (int root = 0; root < 3; root++) {
            x.make(0, root);
            x.set(root, 0, root * 9 - 9);
        }
        x.step(RANGE, 0, -8, 9, 0);
        Expect.refused("a range that is cut below", x, 0, 0);
        x.step(RANGE, 0, -9, 8, 0);
        Expect.refused("a range that is cut above", x, 0, 0);
        Expect.equal("the same range", Expect.change(x, 0, RANGE, 0, -9, 9, 0), 2);
        Expect.change(x, 0, RANGE, 0, -2, 5, 1);
        Expect.equal("below", x.get(0, 0), -2);
        Expect.equal("within", x.get(1, 0), 0);
        Expect.equal("above", x.get(2, 0), 5);
        Expect.change(x, 0, RANGE, 0, 100, 200, 1);
        Expect.equal("all are below", x.get(2, 0), 100);
        x.step(RANGE, 0, 0, 150, 1);
        x.step(RANGE, 0, -50, 150, 0);
        x.change(0);
        Expect.equal("the range of the step before counts", x.field(0, 0, 2), -50);
        Expect.change(x, 0, REFERENCE, 5, 0);
        x.step(RANGE, 5, 0, 1, 1);
        Expect.refused("a reference has no range", x, 0, 0);
        x.step(RANGE, 6, 0, 1, 1);
        Expect.refused("no such field", x, 0, 0);
    }

    private static void stepReference() {
        MigrantHeap x = numbers(0, 1, 2, 3, 4);
        x.make(0, 0);
        x.step(REFERENCE, 4, 0, 0, 0);
        Expect.refused("a name that is there", x, 0, 0);
        Expect.change(x, 0, REFERENCE, 5, 2);
        x.follow(0, 5, 1);
        Expect.no("it refers to nothing", x.drop(1));
        Expect.equal("its sort", x.field(0, 5, 1), 1);
        x.step(REFERENCE, 6, 0, 0, 0);
        Expect.refused("a seventh field", x, 0, 0);
    }

    /** Class 0 has the numbers 0, 1, 2 (-9 .. 9), class 1 has 2 (-9 .. 9) and 0 (-20 .. 20). */
    private static MigrantHeap splitting() {
        MigrantHeap x = numbers(0, 1, 2);
        Expect.number(x, 2, -9, 9, 200);
        Expect.number(x, 0, -20, 20, 200);
        x.change(1);
        return x;
    }

    private static void stepSplit() {
        MigrantHeap x = splitting();
        for (int root = 0; root < 2; root++) {
            x.make(0, root);
            x.set(root, 0, root + 1);
            x.set(root, 1, root + 3);
            x.set(root, 2, root + 5);
        }
        x.drop(1);
        Expect.equal("a name that goes may come", Expect.change(x, 0, SPLIT, 0, 1, 5), 2);
        Expect.equal("a record for each record", x.about(1, 1), 2);
        Expect.equal("fields left", x.about(0, 3), 2);
        Expect.equal("the sort of the reference", x.field(0, 1, 1), 2);
        Expect.equal("its class", x.field(0, 1, 2), 1);
        Expect.equal("the record is not touched", x.versionOf(0), 1);
        Expect.equal("what is left", x.get(0, 1), 3);
        x.follow(0, 0, 5);
        Expect.equal("kept as the newest of its class", x.versionOf(5), 1);
        Expect.equal("the first that went", x.get(5, 0), 1);
        Expect.equal("the last that went", x.get(5, 2), 5);
        x.set(5, 0, -20);
        Expect.equal("with the range of its class", x.get(5, 0), -20);
        x.step(DROP, 0, 0, 0, 0);
        Expect.refused("an owning field is not dropped", x, 0, 0);
        Expect.equal("but renamed", Expect.change(x, 0, NAME, 0, 8), 3);
        x.follow(0, 8, 6);
        Expect.yes("and refers to the same", x.same(5, 6));
    }

    private static void stepSplitRefused() {
        MigrantHeap x = splitting();
        x.step(SPLIT, 5, 0, 7, 0);
        Expect.refused("its own class", x, 0, 0);
        x.step(SPLIT, 5, 1, 4, 0);
        Expect.refused("fewer than the class has", x, 0, 0);
        x.step(SPLIT, 5, 1, 7, 0);
        Expect.refused("more than the class has", x, 0, 0);
        x.step(SPLIT, 5, 2, 4, 0);
        Expect.refused("a class without fields", x, 0, 0);
        x.step(SPLIT, 1, 1, 5, 0);
        Expect.refused("a name that is left", x, 0, 0);
        x.step(RANGE, 2, -9, 10, 0);
        x.step(SPLIT, 5, 1, 5, 0);
        Expect.refused("a range that is too wide", x, 0, 1);
        x.step(DROP, 2, 0, 0, 0);
        x.step(SPLIT, 5, 1, 5, 0);
        Expect.refused("a field that is not there", x, 0, 1);
        x.step(DROP, 2, 0, 0, 0);
        x.step(REFERENCE, 2, 1, 0, 0);
        x.step(SPLIT, 5, 1, 5, 0);
        Expect.refused("a reference that would go", x, 0, 2);
        Expect.change(x, 1, REFERENCE, 7, 1);
        x.step(SPLIT, 5, 1, 5, 0);
        Expect.refused("a class with a reference", x, 0, 0);
        x.step(SPLIT, 5, 1, 133, 0);
        Expect.refused("a class with a reference, named too", x, 0, 0);
        Expect.change(x, 1, DROP, 7);
        x.step(DROP, 2, 0, 0, 0);
        Expect.number(x, 2, 1, 9, 201);
        Expect.put(x, SPLIT, 5, 1, 5);
        Expect.equal("a new number goes too", x.change(0), 2);
    }

    private static void stepSplitRoom() {
        MigrantHeap x = splitting();
        Expect.addNumber(x, 2, 1, -9, 9, 0);
        for (int i = 0; i < 8; i++) {
            x.make(0, 0);
        }
        x.make(1, 1);
        x.step(SPLIT, 5, 1, 5, 0);
        x.step(SPLIT, 6, 2, 2, 0);
        Expect.refused("25 records, by the second step", x, 0, 1);
        x.drop(1);
        x.make(2, 1);
        x.step(SPLIT, 5, 1, 5, 0);
        Expect.equal("18 records", x.change(0), 2);
        x.step(SPLIT, 6, 2, 2, 0);
        Expect.refused("26 records", x, 0, 0);
        x.drop(1);
        Expect.equal("collect()", x.collect(), 16);
        x.step(SPLIT, 6, 2, 2, 0);
        Expect.equal("room enough", x.change(0), 3);

        MigrantHeap y = splitting();
        for (int i = 0; i < 12; i++) {
            y.make(0, 0);
        }
        Expect.equal("24 records", Expect.change(y, 0, SPLIT, 5, 1, 5), 2);
        Expect.state("make then", () -> y.make(1, 0));
    }

    private static void stepJoin() {
        MigrantHeap x = splitting();
        x.make(0, 0);
        x.make(0, 1);
        x.set(1, 0, 4);
        x.set(1, 1, 6);
        Expect.change(x, 0, SPLIT, 0, 1, 5);
        Expect.addNumber(x, 1, 7, 0, 5, 3);
        x.follow(1, 0, 2);
        x.set(2, 2, -8);
        x.drop(2);
        x.make(1, 3);
        x.step(NAME, 0, 9, 0, 0);
        x.step(JOIN, 9, 0, 0, 0);
        x.step(RANGE, 7, 0, 2, 1);
        Expect.equal("a renamed one is joined", x.change(0), 3);
        Expect.equal("the records are there no more", x.about(1, 1), 1);
        int[] names = {1, 2, 0, 7};
        for (int i = 0; i < names.length; i++) {
            Expect.equal("the name of field " + i, x.field(0, i, 0), names[i]);
        }
        Expect.equal("the range comes from its class", x.field(0, 2, 3), 20);
        Expect.equal("the value that was set", x.get(1, 2), -8);
        Expect.equal("the value that was split off", x.get(1, 0), 4);
        Expect.equal("the value that stayed", x.get(1, 1), 6);
        Expect.equal("the value that came between, cut", x.get(1, 7), 2);
        Expect.equal("of another record", x.get(0, 7), 2);

        MigrantHeap y = splitting();
        y.make(0, 0);
        y.set(0, 0, 3);
        Expect.change(y, 0, SPLIT, 0, 1, 5);
        Expect.equal("its own name may come", Expect.change(y, 0, JOIN, 0), 3);
        Expect.equal("the value of it", y.get(0, 0), 3);
    }

    private static void stepJoinRefused() {
        MigrantHeap x = splitting();
        x.step(SPLIT, 5, 1, 5, 0);
        x.step(JOIN, 5, 0, 0, 0);
        Expect.refused("no old field, without records", x, 0, 1);
        x.make(0, 0);
        x.make(0, 1);
        x.step(SPLIT, 5, 1, 5, 0);
        x.step(JOIN, 5, 0, 0, 0);
        Expect.refused("no old field", x, 0, 1);
        x.step(JOIN, 5, 0, 0, 0);
        Expect.refused("no such field", x, 0, 0);
        x.step(JOIN, 0, 0, 0, 0);
        Expect.refused("a number", x, 0, 0);
        Expect.change(x, 0, SPLIT, 5, 1, 5);
        Expect.number(x, 2, 0, 9, 200);
        x.step(JOIN, 5, 0, 0, 0);
        Expect.refused("a name that is there", x, 0, 1);
        Expect.number(x, 6, 0, 9, 200);
        Expect.number(x, 7, 0, 9, 200);
        Expect.number(x, 8, 0, 9, 200);
        Expect.number(x, 9, 0, 9, 200);
        x.step(JOIN, 5, 0, 0, 0);
        Expect.refused("seven fields", x, 0, 4);
        x.follow(0, 5, 7);
        x.step(JOIN, 5, 0, 0, 0);
        Expect.refused("a root holds one of them", x, 0, 0);
        x.drop(0);
        x.step(JOIN, 5, 0, 0, 0);
        Expect.refused("a root holds one of a record that none leads to", x, 0, 0);
        x.drop(7);
        Expect.change(x, 1, REFERENCE, 3, 0);
        x.step(JOIN, 5, 0, 0, 0);
        Expect.refused("its class has a reference", x, 0, 0);
        Expect.change(x, 1, DROP, 3);
        Expect.change(x, 0, REFERENCE, 6, 1);
        x.step(JOIN, 6, 0, 0, 0);
        Expect.refused("a reference that is not owning", x, 0, 0);
        Expect.number(x, 7, 0, 9, 200);
        Expect.number(x, 8, 0, 9, 200);
        x.step(JOIN, 5, 0, 0, 0);
        Expect.equal("six fields", x.change(0), 4);
        Expect.equal("all joined", x.about(1, 1), 0);
    }

    private static void stepJoinThenSplit() {
        MigrantHeap x = splitting();
        for (int i = 0; i < 12; i++) {
            x.make(0, 0);
        }
        x.set(0, 0, 6);
        Expect.change(x, 0, SPLIT, 5, 1, 5);
        x.step(JOIN, 5, 0, 0, 0);
        x.step(NAME, 1, 3, 0, 0);
        x.step(RANGE, 0, -5, 5, 1);
        x.step(SPLIT, 4, 1, 5, 0);
        Expect.equal("what is joined makes room", x.change(0), 3);
        Expect.equal("24 records again", x.about(0, 1) + x.about(1, 1), 24);
        x.follow(0, 4, 1);
        Expect.equal("the value, cut between", x.get(1, 0), 5);
        Expect.equal("the ones split off go with their owners", x.about(1, 2), 0);
    }

    /** What a formula makes of the fields 0 and 1, whose ranges have nothing but these values in them. */
    private static void value(int first, int second, int due, int... words) {
        MigrantHeap x = Expect.heap(1);
        x.make(0, 0);
        Expect.number(x, 0, first, first, 200 + first);
        Expect.number(x, 1, second, second, 200 + second);
        x.change(0);
        Expect.number(x, 2, due, due, words);
        Expect.equal("a formula of " + words.length + " words is taken", x.change(0), 2);
        Expect.equal("and has the value", x.get(0, 2), due);
    }

    private static void formulaValues() {
        value(7, 2, 9, 0, 1, 10);
        value(7, 2, 5, 0, 1, 11);
        value(7, 2, 14, 0, 1, 12);
        value(7, 2, 3, 0, 1, 13);
        value(-7, 2, -3, 0, 1, 13);
        value(7, -2, -3, 0, 1, 13);
        value(-7, -2, 3, 0, 1, 13);
        value(7, 2, 2, 0, 1, 14);
        value(7, 2, 7, 0, 1, 15);
        value(7, 2, -7, 0, 16);
        value(0, 0, 100, 300);
        value(0, 0, -100, 100);
        value(3, 4, 16, 0, 1, 1, 12, 200, 11, 0, 11, 10);
    }

    /** The fields 0 (-3 .. 5), 1 (2 .. 4) and 2 (-4 .. -1): the least range that takes the formula. */
    private static void ranges(int low, int high, int... words) {
        MigrantHeap x = Expect.heap(1);
        Expect.number(x, 0, -3, 5, 200);
        Expect.number(x, 1, 2, 4, 202);
        Expect.number(x, 2, -4, -1, 199);
        x.change(0);
        Expect.number(x, 3, low + 1, 1000, words);
        Expect.refused("from " + low + " + 1", x, 0, 0);
        Expect.number(x, 3, -1000, high - 1, words);
        Expect.refused("to " + high + " - 1", x, 0, 0);
        Expect.number(x, 3, low, high, words);
        Expect.equal("from " + low + " to " + high, x.change(0), 2);
    }

    private static void formulaRanges() {
        ranges(-1, 9, 0, 1, 10);
        ranges(-7, 3, 0, 1, 11);
        ranges(-12, 20, 0, 1, 12);
        ranges(-20, 12, 0, 2, 12);
        ranges(-1, 2, 0, 1, 13);
        ranges(-5, 3, 0, 2, 13);
        ranges(-3, 4, 0, 1, 14);
        ranges(2, 5, 0, 1, 15);
        ranges(-5, 3, 0, 16);
        ranges(-15, 25, 0, 0, 12);
        ranges(-8, 8, 0, 0, 11);
    }

    private static void formulaTraps() {
        traps(0, 1, 201, 0, 13);
        traps(-1, 0, 201, 0, 13);
        traps(-1, 1, 201, 0, 13);
        traps(0, 0, 200, 0, 13);
        fits(1, 2, 200, 0, 13);
        fits(-2, -1, 200, 0, 13);
        // A million times a million is the farthest that a result may be.
        fits(FARTHEST, FARTHEST, 0, 0, 12, 0, 13, 0, 13);
        fits(-FARTHEST, FARTHEST, 0, 0, 12, 200, 14, 200, 15);
        traps(FARTHEST, FARTHEST, 0, 0, 12, 201, 10, 0, 13, 0, 13);
        traps(FARTHEST, FARTHEST, 0, 0, 12, 16, 201, 11, 0, 13, 0, 13);
        traps(FARTHEST, FARTHEST, 0, 0, 12, 0, 0, 12, 12, 201, 14);
        traps(-FARTHEST, FARTHEST, 0, 0, 12, 0, 0, 12, 12, 200, 14, 200, 15);
        traps(-FARTHEST, FARTHEST, 0, 0, 12, 0, 12, 200, 14, 200, 15);
    }

    private static void traps(int low, int high, int... words) {
        MigrantHeap x = withRange(low, high);
        Expect.number(x, 1, -FARTHEST, FARTHEST, words);
        Expect.refused("a formula that traps with " + low + " .. " + high, x, 0, 0);
    }

    private static void fits(int low, int high, int... words) {
        MigrantHeap x = withRange(low, high);
        Expect.number(x, 1, -FARTHEST, FARTHEST, words);
        Expect.equal("a formula that does not trap with " + low + " .. " + high, x.change(0), 2);
    }

    private static MigrantHeap withRange(int low, int high) {
        MigrantHeap x = Expect.heap(1);
        Expect.number(x, 0, Math.min(low, 0), Math.max(high, 0), 200);
        Expect.put(x, RANGE, 0, low, high, 1);
        x.change(0);
        return x;
    }

    private static void promise13TakeBack() {
        MigrantHeap x = numbers(0, 1);
        Expect.argument("takeBack(3)", () -> x.takeBack(3));
        Expect.argument("takeBack(-1)", () -> x.takeBack(-1));
        Expect.state("version 0 alone", () -> x.takeBack(1));
        for (int root = 0; root < 3; root++) {
            x.make(0, root);
            x.set(root, 0, root + 4);
        }
        x.step(RANGE, 0, 0, 5, 1);
        x.step(NAME, 0, 7, 0, 0);
        Expect.number(x, 0, 0, 3, 203);
        x.step(DROP, 1, 0, 0, 0);
        x.change(0);
        x.touch(0);
        x.get(2, 7);
        x.step(DROP, 9, 0, 0, 0);
        Expect.refused("a refused script is no change", x, 0, 0);
        Expect.equal("those kept as the version that goes", x.takeBack(0), 2);
        Expect.equal("the version before", x.about(0, 0), 1);
        Expect.equal("its fields", x.about(0, 3), 2);
        Expect.equal("its range", x.field(0, 0, 2), -9);
        for (int root = 0; root < 3; root++) {
            Expect.equal("kept as the one before", x.versionOf(root), 1);
            Expect.equal("the value as it was", x.get(root, 0), root + 4);
        }
        Expect.state("only once", () -> x.takeBack(0));
        x.step(DROP, 9, 0, 0, 0);
        Expect.refused("a refused script", x, 0, 0);
        Expect.state("is no change to be taken back", () -> x.takeBack(0));
        Expect.change(x, 1, REFERENCE, 0, 0);
        Expect.state("nor is one of another class", () -> x.takeBack(0));
        Expect.change(x, 0, DROP, 0);
        Expect.equal("another change is", x.takeBack(0), 0);
        Expect.equal("and the value is there again", x.get(1, 0), 5);
        Expect.equal("a change of the other class is still", x.takeBack(1), 0);

        MigrantHeap y = Expect.heap(1);
        y.make(0, 0);
        Expect.addNumber(y, 0, 0, 0, 5, 3);
        Expect.addNumber(y, 0, 1, 0, 5, 3);
        Expect.equal("one kept as version 0 stays there", y.takeBack(0), 0);
        Expect.equal("versionOf(0)", y.versionOf(0), 0);
        Expect.state("not the change before", () -> y.takeBack(0));
    }

    private static void promise13TakeBackReferences() {
        MigrantHeap x = Expect.heap(2);
        x.step(REFERENCE, 0, 1, 0, 0);
        x.step(REFERENCE, 1, 1, 0, 0);
        x.change(0);
        x.make(0, 0);
        x.make(1, 1);
        x.make(1, 2);
        x.link(0, 0, 1);
        x.link(0, 1, 2);
        x.drop(1);
        x.step(DROP, 0, 0, 0, 0);
        x.step(DROP, 1, 0, 0, 0);
        x.change(0);
        Expect.equal("one of them goes", x.collect(), 1);
        x.make(1, 3);
        x.takeBack(0);
        x.follow(0, 0, 4);
        Expect.yes("it refers to nothing, also with a new record there", x.same(4, 7));
        x.follow(0, 1, 4);
        Expect.yes("it refers to what is still there", x.same(4, 2));
    }

    private static void promise13TakeBackBarred() {
        MigrantHeap made = changed();
        made.make(0, 1);
        Expect.state("a record was made", () -> made.takeBack(0));
        made.drop(1);
        made.collect();
        Expect.state("and is there no more", () -> made.takeBack(0));
        MigrantHeap set = changed();
        set.set(0, 0, 1);
        Expect.state("a number was set", () -> set.takeBack(0));
        MigrantHeap linked = changed();
        linked.link(0, 1, 7);
        Expect.state("a reference was linked", () -> linked.takeBack(0));
        MigrantHeap failed = changed();
        Expect.state("set out of the range", () -> failed.set(0, 0, 99));
        Expect.state("link to another class", () -> failed.link(0, 1, 2));
        failed.make(1, 3);
        failed.follow(0, 1, 6);
        failed.sweep(0);
        Expect.equal("what throws changes nothing, and reading bars nothing", failed.takeBack(0), 1);
        MigrantHeap other = changed();
        other.make(1, 3);
        other.link(2, 1, 0);
        Expect.equal("a link to a record of it does not change it", other.takeBack(0), 0);
    }

    /** Class 0 with a number 0 and a reference 1 has been changed; roots 0 and 2 hold records of 0 and 1. */
    private static MigrantHeap changed() {
        MigrantHeap x = Expect.heap(2);
        Expect.number(x, 0, 0, 9, 200);
        Expect.put(x, REFERENCE, 1, 0);
        x.change(0);
        Expect.change(x, 1, REFERENCE, 1, 0);
        x.make(0, 0);
        x.make(1, 2);
        Expect.addNumber(x, 0, 2, 0, 9, 3);
        return x;
    }

    private static void promise13TakeBackBarredByOthers() {
        MigrantHeap x = splitting();
        Expect.change(x, 0, SPLIT, 5, 1, 5);
        Expect.state("the change had a SPLIT", () -> x.takeBack(0));
        Expect.state("a SPLIT to it, without records", () -> x.takeBack(1));
        Expect.addNumber(x, 1, 7, 0, 9, 3);
        Expect.equal("a later change of it", x.takeBack(1), 0);
        Expect.addNumber(x, 1, 7, 0, 9, 3);
        x.make(0, 0);
        Expect.state("a record was made by its owner's make()", () -> x.takeBack(1));
        Expect.change(x, 1, DROP, 7);
        Expect.change(x, 0, JOIN, 5);
        Expect.state("the change had a JOIN", () -> x.takeBack(0));
        Expect.state("a JOIN of it", () -> x.takeBack(1));
        Expect.change(x, 0, DROP, 0);
        Expect.equal("the next change can be taken back", x.takeBack(0), 0);

        MigrantHeap y = splitting();
        Expect.change(y, 0, SPLIT, 5, 1, 5);
        Expect.addNumber(y, 1, 7, 0, 9, 3);
        Expect.change(y, 0, JOIN, 5);
        Expect.state("a JOIN of it, without records", () -> y.takeBack(1));
    }

    private static void promise18About() {
        MigrantHeap x = Expect.heap(2);
        x.make(0, 0);
        x.make(0, 0);
        x.make(1, 1);
        Expect.addNumber(x, 0, 0, 0, 5, 3);
        Expect.change(x, 0, REFERENCE, 1, 0);
        x.make(0, 2);
        Expect.equal("the newest version", x.about(0, 0), 2);
        Expect.equal("the records", x.about(0, 1), 3);
        Expect.equal("those not kept as that", x.about(0, 2), 2);
        Expect.equal("the fields", x.about(0, 3), 2);
        Expect.equal("about touches nothing", x.about(0, 2), 2);
        Expect.equal("of the other class", x.about(1, 1), 1);
        Expect.argument("about(0, 4)", () -> x.about(0, 4));
        Expect.argument("about(0, -1)", () -> x.about(0, -1));
        Expect.argument("about(2, 0)", () -> x.about(2, 0));
        Expect.argument("about(-1, 0)", () -> x.about(-1, 0));
    }

    private static void promise19Field() {
        MigrantHeap x = Expect.heap(4);
        Expect.number(x, 4, -7, 8, 200);
        Expect.put(x, REFERENCE, 2, 3);
        x.change(0);
        Expect.addNumber(x, 1, 4, -7, 8, 0);
        Expect.change(x, 0, SPLIT, 9, 1, 16);
        Expect.addNumber(x, 0, 5, -7, 8, 0);
        int[][] due = {{2, 1, 3, 3}, {9, 2, 1, 1}, {5, 0, -7, 8}};
        for (int i = 0; i < due.length; i++) {
            for (int what = 0; what < 4; what++) {
                Expect.equal("field(0, " + i + ", " + what + ")", x.field(0, i, what), due[i][what]);
            }
        }
        Expect.bounds("field(0, 3, 0)", () -> x.field(0, 3, 0));
        Expect.bounds("field(0, -1, 0)", () -> x.field(0, -1, 0));
        Expect.bounds("field(3, 0, 0)", () -> x.field(3, 0, 0));
        Expect.argument("field(0, 3, 4)", () -> x.field(0, 3, 4));
        Expect.argument("field(0, 0, -1)", () -> x.field(0, 0, -1));
        Expect.argument("field(4, 0, 0)", () -> x.field(4, 0, 0));
        Expect.argument("field(-1, 9, 0)", () -> x.field(-1, 9, 0));
    }

    private static void promise20Fault() {
        MigrantHeap x = Expect.heap(1);
        Expect.equal("none", x.fault(), -1);
        x.step(REFERENCE, 0, 0, 0, 0);
        x.step(REFERENCE, 1, 0, 0, 0);
        x.step(REFERENCE, 1, 0, 0, 0);
        x.step(DROP, 9, 0, 0, 0);
        Expect.refused("the first that can't be done", x, 0, 2);
        Expect.argument("no step waits", () -> x.change(0));
        Expect.equal("it does not count", x.fault(), 2);
        x.step(REFERENCE, 0, 0, 0, 0);
        Expect.argument("no such class", () -> x.change(1));
        Expect.equal("nor does that", x.fault(), 2);
        x.change(0);
        Expect.equal("one that is carried out", x.fault(), -1);
        x.step(DROP, 9, 0, 0, 0);
        Expect.refused("another", x, 0, 0);
        x.takeBack(0);
        Expect.equal("takeBack is no change()", x.fault(), 0);
    }
}
