import java.util.function.Consumer;

/** The edges that the promises 1 to 20 name, sentence by sentence. */
public final class CallsEdgesTest {
    private static final int DROP = 0;
    private static final int NAME = 1;
    private static final int NUMBER = 2;
    private static final int RANGE = 3;
    private static final int REFERENCE = 4;
    private static final int SPLIT = 5;
    private static final int JOIN = 6;
    private static final int FARTHEST = 1000000;
    private static final int MIN = Integer.MIN_VALUE;
    private static final int MAX = Integer.MAX_VALUE;

    private CallsEdgesTest() {
    }

    public static void main(String[] args) {
        promise1NothingWaits();
        promise2ThereAreFour();
        promise3WhatTheRootHeldStays();
        promise3NearestTo0();
        promise3ReferencesNothing();
        promise3OwnedAndSoOn();
        promise3ThereWouldBeMoreThan24();
        promise4HoldsNothingOrNoNumber();
        promise4Touches();
        promise5NotInItsRange();
        promise5HoldsNothingOrNoNumber();
        promise6AlsoItselfOrNothing();
        promise6HoldsNothingOrNoReference();
        promise6OwningOwnedOrAnotherClass();
        promise7NothingIfThatIsSo();
        promise7TheFirstOneIsTouched();
        promise7HoldsNothingOrNoReference();
        promise8WhetherItHeldOne();
        promise9OrBothNothing();
        promise10NoWord();
        promise10TwelveWait();
        promise11NumberTakesAllWords();
        promise11WhatIsNotNamedDoesNotMatter();
        promise11NoStep();
        promise11SixWait();
        promise12TheNewestVersionThen();
        promise12NoStepWaitsThen();
        promise12NoneWaits();
        promise12TenVersions();
        promise13AsTheyWere();
        promise13SixFields();
        promise13ARecordThatIsThereNoMore();
        promise13KeptAsTheOneBefore();
        promise13Once();
        promise13Version0Alone();
        promise13HadASplitOrJoin();
        promise13ARecordWasMade();
        promise13ChangedBySetOrLink();
        promise13ASplitToItOrAJoinOfIt();
        promise13WhatDoesNotBar();
        promise14HoldsNothing();
        promise15HowManyVersionsLater();
        promise16NotKeptAsTheNewest();
        promise17NoRootLeads();
        promise17AllReferToAll();
        promise17ByTheNewestVersion();
        promise18About();
        promise18NoneOfThese();
        promise19Field();
        promise19NoSuchField();
        promise20WhichStep();
        promise20None();
        Expect.end();
    }

    private static void promise1NothingWaits() {
        Expect.sentence("No classes, no records; no word and no step waits.");
        MigrantHeap x = new MigrantHeap();
        Expect.argument("class 0", () -> x.about(0, 1));
        Expect.equal("records", x.collect(), 0);
        Expect.argument("a formula", () -> x.step(NUMBER, 0, 0, 0, 0));
        Expect.equal("the first class", x.newClass(), 0);
        Expect.argument("a script", () -> x.change(0));
        Expect.equal("its records", x.about(0, 1), 0);
        Expect.equal("the first word", x.word(200), 1);
        Expect.equal("the first step", x.step(DROP, 0, 0, 0, 0), 1);
        Expect.equal("another object has its own", new MigrantHeap().word(200), 1);
    }

    private static void promise2ThereAreFour() {
        Expect.sentence("Makes a class: its number. Illegal state: there are 4.");
        MigrantHeap x = new MigrantHeap();
        for (int c = 0; c < 4; c++) {
            Expect.equal("newClass()", x.newClass(), c);
        }
        for (int i = 0; i < 3; i++) {
            Expect.state("newClass() again", x::newClass);
        }
    }

    private static void promise3WhatTheRootHeldStays() {
        Expect.sentence("the root holds it then (what it held stays a record)");
        MigrantHeap x = Expect.heap(2);
        Expect.change(x, 0, REFERENCE, 0, 0);
        x.make(0, 7);
        x.make(0, 6);
        x.link(6, 0, 7);
        x.make(1, 7);
        Expect.equal("what it held is one", x.about(0, 1), 2);
        x.follow(6, 0, 5);
        Expect.no("it is another", x.same(5, 7));
        x.follow(5, 0, 4);
        Expect.no("and can be used", x.drop(4));
        x.make(1, 7);
        x.make(1, 7);
        Expect.equal("each stays", x.about(1, 1), 3);
        Expect.equal("till collect()", x.collect(), 2);
    }

    private static void promise3NearestTo0() {
        Expect.sentence("Its numbers are those of their ranges nearest to 0");
        int[][] due = {
            {-1, 1, 0}, {0, 0, 0}, {0, 5, 0}, {-5, 0, 0}, {1, 5, 1}, {-5, -1, -1}, {FARTHEST, FARTHEST, FARTHEST},
            {-FARTHEST, -FARTHEST, -FARTHEST}, {-FARTHEST, FARTHEST, 0}, {7, FARTHEST, 7}, {-FARTHEST, -7, -7},
        };
        for (int[] d : due) {
            MigrantHeap x = Expect.heap(1);
            Expect.number(x, 0, -FARTHEST, FARTHEST, 203);
            Expect.put(x, RANGE, 0, d[0], d[1], 1);
            x.change(0);
            x.make(0, 0);
            Expect.equal("the range " + d[0] + " .. " + d[1], x.get(0, 0), d[2]);
        }
    }

    private static void promise3ReferencesNothing() {
        Expect.sentence("its references nothing");
        MigrantHeap x = Expect.heap(1);
        Expect.addNumbers(x, 0, 0, 9, 9);
        for (int i = 0; i < 5; i++) {
            Expect.change(x, 0, REFERENCE, i, 0);
        }
        // Each is made where one that referred to itself has just been.
        for (int round = 0; round < 3; round++) {
            x.make(0, 0);
            Expect.equal("the number", x.get(0, 9), 0);
            x.set(0, 9, 5);
            for (int name = 0; name < 5; name++) {
                x.follow(0, name, 1);
                Expect.no("reference " + name + " in round " + round, x.drop(1));
                x.link(0, name, 0);
            }
            x.drop(0);
            Expect.equal("collect()", x.collect(), 1);
        }
        x.make(0, 0);
        x.make(0, 2);
        Expect.equal("each leads to itself alone", x.collect(), 0);
    }

    /** Class 0 owns one of class 1 by 5, that one of class 2 by 6, that one of class 3 by 7; the last has a 0. */
    private static MigrantHeap chain() {
        MigrantHeap x = Expect.heap(4);
        for (int c = 3; c >= 0; c--) {
            Expect.addNumber(x, c, 0, 3, 9, 5);
        }
        for (int c = 0; c < 3; c++) {
            Expect.change(x, c, SPLIT, 5 + c, c + 1, 1);
        }
        return x;
    }

    private static int records(MigrantHeap x) {
        return x.about(0, 1) + x.about(1, 1) + x.about(2, 1) + x.about(3, 1);
    }

    private static void promise3OwnedAndSoOn() {
        Expect.sentence("its references nothing, but for each owning field a record of that class is made likewise "
                + "(and so on)");
        MigrantHeap x = chain();
        Expect.change(x, 1, REFERENCE, 8, 0);
        x.make(0, 0);
        for (int c = 0; c < 4; c++) {
            Expect.equal("records of class " + c, x.about(c, 1), 1);
            Expect.equal("not kept as the newest, of class " + c, x.about(c, 2), 0);
        }
        x.follow(0, 5, 1);
        x.follow(1, 8, 2);
        Expect.no("a reference of an owned one", x.drop(2));
        x.follow(1, 6, 2);
        x.follow(2, 7, 3);
        Expect.equal("a number of the last", x.get(3, 0), 3);
        MigrantHeap y = Expect.heap(2);
        Expect.addNumber(y, 1, 0, 3, 9, 5);
        for (int i = 1; i <= 6; i++) {
            Expect.number(y, 0, 3, 9, 205);
            Expect.put(y, SPLIT, i, 1, 1);
            y.change(0);
        }
        y.make(0, 0);
        Expect.equal("one for each of six owning fields", y.about(1, 1), 6);
        for (int i = 1; i <= 6; i++) {
            y.follow(0, i, 1);
            y.set(1, 0, 3 + i);
        }
        for (int i = 1; i <= 6; i++) {
            y.follow(0, i, 1);
            Expect.equal("they are six", y.get(1, 0), 3 + i);
        }
    }

    private static void promise3ThereWouldBeMoreThan24() {
        Expect.sentence("illegal state: there would be more than 24");
        MigrantHeap x = chain();
        for (int i = 0; i < 6; i++) {
            x.make(0, i);
        }
        Expect.equal("six with the three that each owns", records(x), 24);
        for (int c = 0; c < 4; c++) {
            int of = c;
            Expect.state("one more of class " + c, () -> x.make(of, 7));
        }
        x.drop(0);
        Expect.equal("four go", x.collect(), 4);
        x.make(3, 0);
        Expect.state("four where three have room", () -> x.make(0, 7));
        Expect.equal("none of the four is made", records(x), 21);
        Expect.no("the root holds nothing", x.drop(7));
        x.make(1, 7);
        Expect.equal("three", records(x), 24);
    }

    /** Class 0 has a number 1 (-5 .. 5), a reference 2 and owns one of class 1 by 5; root 0 holds one, as version 0. */
    private static MigrantHeap late() {
        MigrantHeap x = Expect.heap(3);
        Expect.addNumbers(x, 1, 0, 9, 0);
        x.make(0, 0);
        Expect.number(x, 0, 0, 9, 204);
        Expect.number(x, 1, -5, 5, 203);
        Expect.put(x, REFERENCE, 2, 0);
        Expect.put(x, SPLIT, 5, 1, 1);
        x.change(0);
        return x;
    }

    private static void promise4HoldsNothingOrNoNumber() {
        Expect.sentence("A number of the record in a root .. no such element: the root holds nothing, "
                + "or there is no such number");
        MigrantHeap x = late();
        for (int root = 1; root < 8; root++) {
            int empty = root;
            Expect.noElement("root " + root, () -> x.get(empty, 1));
        }
        for (int name = 0; name < 10; name++) {
            int asked = name;
            if (name != 1) {
                Expect.noElement("name " + name, () -> x.get(0, asked));
            }
        }
        Expect.equal("it is not touched", x.versionOf(0), 0);
    }

    private static void promise4Touches() {
        Expect.sentence("A number of the record in a root, which is touched");
        MigrantHeap x = late();
        x.make(0, 1);
        Expect.change(x, 0, RANGE, 1, -5, 2, 1);
        Expect.equal("the number, as it is now", x.get(0, 1), 2);
        Expect.equal("touched, by two versions", x.versionOf(0), 2);
        Expect.equal("another is not", x.versionOf(1), 1);
    }

    private static void promise5NotInItsRange() {
        Expect.sentence("illegal state: v is not in its range");
        MigrantHeap x = late();
        for (int wrong : new int[] {MIN, -FARTHEST, -6, 6, FARTHEST, MAX}) {
            Expect.state("set(0, 1, " + wrong + ")", () -> x.set(0, 1, wrong));
        }
        Expect.equal("it is not touched", x.versionOf(0), 0);
        Expect.equal("nor changed", x.get(0, 1), 3);
        for (int right : new int[] {-5, 5, 0}) {
            x.set(0, 1, right);
            Expect.equal("set(0, 1, " + right + ")", x.get(0, 1), right);
        }
        MigrantHeap y = late();
        y.set(0, 1, -5);
        Expect.equal("set() touches", y.versionOf(0), 1);
    }

    private static void promise5HoldsNothingOrNoNumber() {
        Expect.sentence("A number of the record in a root becomes v .. no such element: the root holds nothing, "
                + "or there is no such number");
        MigrantHeap x = late();
        for (int root = 1; root < 8; root++) {
            int empty = root;
            Expect.noElement("root " + root, () -> x.set(empty, 1, 0));
        }
        for (int name = 0; name < 10; name++) {
            int asked = name;
            if (name != 1) {
                Expect.noElement("name " + name, () -> x.set(0, asked, 0));
            }
        }
        Expect.equal("it is not touched", x.versionOf(0), 0);
    }

    private static void promise6AlsoItselfOrNothing() {
        Expect.sentence("refers to what another root holds then (a record, also itself, or nothing)");
        MigrantHeap x = late();
        x.make(0, 1);
        Expect.change(x, 0, REFERENCE, 3, 0);
        x.link(0, 2, 1);
        Expect.equal("the first is touched", x.versionOf(0), 2);
        Expect.equal("the other is not", x.versionOf(1), 1);
        x.follow(0, 2, 2);
        Expect.yes("a record", x.same(1, 2));
        x.link(0, 2, 0);
        x.follow(0, 2, 2);
        Expect.yes("itself", x.same(0, 2));
        x.drop(1);
        x.follow(0, 2, 2);
        Expect.yes("what a root holds later does not matter", x.same(0, 2));
        x.link(0, 2, 7);
        x.follow(0, 2, 2);
        Expect.no("nothing", x.drop(2));
        x.link(0, 2, 7);
        x.follow(0, 2, 2);
        Expect.no("nothing once more", x.drop(2));
    }

    private static void promise6HoldsNothingOrNoReference() {
        Expect.sentence("A reference of the record in a root refers .. no such element: the root holds nothing, "
                + "or there is no such reference");
        MigrantHeap x = late();
        for (int root = 1; root < 8; root++) {
            int empty = root;
            Expect.noElement("root " + root, () -> x.link(empty, 2, 0));
        }
        for (int name = 0; name < 10; name++) {
            int asked = name;
            if (name != 2 && name != 5) {
                Expect.noElement("name " + name, () -> x.link(0, asked, 0));
            }
        }
        Expect.equal("it is not touched", x.versionOf(0), 0);
    }

    private static void promise6OwningOwnedOrAnotherClass() {
        Expect.sentence("illegal state: it is owning, or the other record is owned, "
                + "or of another class than it should be");
        MigrantHeap x = late();
        x.make(1, 1);
        x.make(2, 2);
        Expect.state("it is owning, the other a record", () -> x.link(0, 5, 1));
        Expect.state("it is owning, the other nothing", () -> x.link(0, 5, 7));
        Expect.state("of another class", () -> x.link(0, 2, 1));
        Expect.state("of a third class", () -> x.link(0, 2, 2));
        Expect.equal("it is not touched", x.versionOf(0), 0);
        Expect.change(x, 2, REFERENCE, 3, 1);
        Expect.state("of the record's own class", () -> x.link(2, 3, 2));
        x.follow(0, 5, 3);
        Expect.state("owned by a SPLIT", () -> x.link(2, 3, 3));
        x.make(0, 4);
        x.follow(4, 5, 5);
        Expect.state("owned by a make()", () -> x.link(2, 3, 5));
        Expect.equal("it is not touched", x.versionOf(2), 0);
        x.link(2, 3, 1);
        Expect.equal("not owned", x.versionOf(2), 1);
        Expect.state("owned, when it refers to another", () -> x.link(2, 3, 3));
        x.follow(2, 3, 6);
        Expect.yes("what it refers to stays", x.same(6, 1));
    }

    private static void promise7NothingIfThatIsSo() {
        Expect.sentence("Root to holds what a reference of the record in a root refers to then "
                + "(nothing, if that is so)");
        MigrantHeap x = late();
        x.make(0, 1);
        x.follow(0, 2, 1);
        Expect.no("nothing, for a root that held a record", x.drop(1));
        x.follow(0, 5, 0);
        Expect.equal("the root itself, an owned record", x.get(0, 0), 4);
        x.make(0, 2);
        x.follow(2, 2, 2);
        Expect.no("the root itself, nothing", x.drop(2));
    }

    private static void promise7TheFirstOneIsTouched() {
        Expect.sentence("that record is touched (the first one)");
        MigrantHeap x = late();
        x.make(0, 1);
        x.link(0, 2, 1);
        Expect.change(x, 0, REFERENCE, 3, 0);
        x.follow(0, 2, 4);
        Expect.equal("the first", x.versionOf(0), 2);
        Expect.equal("the one found", x.versionOf(4), 1);
        x.follow(1, 2, 5);
        Expect.equal("also if it finds nothing", x.versionOf(1), 2);
        Expect.change(x, 0, REFERENCE, 4, 0);
        x.link(0, 2, 0);
        Expect.change(x, 0, NAME, 4, 6);
        x.follow(0, 2, 5);
        Expect.equal("itself", x.versionOf(5), 4);
    }

    private static void promise7HoldsNothingOrNoReference() {
        Expect.sentence("no such element: the root holds nothing, or there is no such reference");
        MigrantHeap x = late();
        for (int root = 1; root < 8; root++) {
            int empty = root;
            Expect.noElement("root " + root, () -> x.follow(empty, 2, 0));
        }
        for (int name = 0; name < 10; name++) {
            int asked = name;
            if (name != 2 && name != 5) {
                Expect.noElement("name " + name, () -> x.follow(0, asked, 7));
            }
        }
        Expect.equal("it is not touched", x.versionOf(0), 0);
        x.make(2, 7);
        Expect.noElement("into a root that holds one", () -> x.follow(0, 1, 7));
        Expect.yes("which still does", x.drop(7));
    }

    private static void promise8WhetherItHeldOne() {
        Expect.sentence("A root holds nothing then: whether it held a record.");
        MigrantHeap x = Expect.heap(1);
        for (int root = 0; root < 8; root++) {
            Expect.no("drop(" + root + ") of nothing", x.drop(root));
            x.make(0, root);
            Expect.yes("drop(" + root + ") of a record", x.drop(root));
            Expect.no("drop(" + root + ") again", x.drop(root));
        }
        Expect.equal("they stay records", x.about(0, 1), 8);
        x.make(0, 0);
        x.make(0, 1);
        x.drop(0);
        Expect.equal("another root stays", x.versionOf(1), 0);
    }

    private static void promise9OrBothNothing() {
        Expect.sentence("Whether two roots hold the same record, or both nothing.");
        MigrantHeap x = Expect.heap(2);
        Expect.change(x, 0, REFERENCE, 0, 0);
        Expect.yes("both nothing", x.same(0, 7));
        Expect.yes("one root, nothing", x.same(3, 3));
        x.make(0, 0);
        Expect.no("a record and nothing", x.same(0, 7));
        Expect.no("nothing and a record", x.same(7, 0));
        Expect.yes("one root, a record", x.same(0, 0));
        x.make(0, 7);
        Expect.no("two records that are alike", x.same(0, 7));
        x.link(0, 0, 7);
        x.follow(0, 0, 1);
        Expect.yes("the same record", x.same(1, 7));
        Expect.yes("the other way round", x.same(7, 1));
        x.drop(1);
        x.drop(7);
        Expect.yes("both nothing again", x.same(1, 7));
    }

    private static void promise10NoWord() {
        Expect.sentence("Puts a word behind those that wait: how many wait then. Illegal argument: it is no word");
        MigrantHeap x = Expect.heap(1);
        for (int w : new int[] {MIN, -1, 17, 18, 98, 99, 301, 302, MAX}) {
            Expect.argument("word(" + w + ")", () -> x.word(w));
        }
        int waiting = 0;
        for (int w : new int[] {0, 1, 8, 9, 10, 11, 15, 16, 100, 101, 299, 300}) {
            waiting++;
            Expect.equal("word(" + w + ")", x.word(w), waiting);
        }
    }

    private static void promise10TwelveWait() {
        Expect.sentence("illegal state: twelve wait");
        MigrantHeap x = Expect.heap(1);
        x.word(200);
        for (int i = 2; i <= 12; i++) {
            Expect.equal("word(16)", x.word(16), i);
        }
        Expect.state("word(16)", () -> x.word(16));
        Expect.state("word(16) again", () -> x.word(16));
        x.step(NUMBER, 0, 0, 0, 0);
        Expect.equal("when they were taken", x.word(200), 1);
    }

    private static void promise11NumberTakesAllWords() {
        Expect.sentence("NUMBER takes all words that wait as its formula (steps of other kinds leave them)");
        MigrantHeap x = Expect.heap(2);
        x.make(0, 0);
        x.word(203);
        Expect.equal("DROP", x.step(DROP, 0, 0, 0, 0), 1);
        Expect.equal("NAME", x.step(NAME, 0, 1, 0, 0), 2);
        Expect.equal("RANGE", x.step(RANGE, 0, 0, 9, 0), 3);
        Expect.equal("REFERENCE", x.step(REFERENCE, 0, 0, 0, 0), 4);
        Expect.equal("SPLIT", x.step(SPLIT, 0, 1, 1, 0), 5);
        Expect.equal("JOIN", x.step(JOIN, 0, 0, 0, 0), 6);
        Expect.state("change(0)", () -> x.change(0));
        Expect.equal("they are left", x.word(204), 2);
        x.word(10);
        Expect.equal("NUMBER", x.step(NUMBER, 0, 0, 9, 0), 1);
        Expect.argument("none is left", () -> x.step(NUMBER, 1, 0, 9, 0));
        Expect.equal("a word for the next", x.word(205), 1);
        Expect.equal("the next NUMBER", x.step(NUMBER, 1, 0, 9, 0), 2);
        x.change(0);
        Expect.equal("each has its own", x.get(0, 0), 7);
        Expect.equal("each has its own", x.get(0, 1), 5);
    }

    private static void promise11WhatIsNotNamedDoesNotMatter() {
        Expect.sentence("what is not named for a kind does not matter");
        for (int any : new int[] {MIN, -1, 2, MAX}) {
            MigrantHeap x = Expect.heap(2);
            Expect.addNumbers(x, 0, 0, 9, 0, 1, 2);
            Expect.addNumbers(x, 1, 0, 9, 1);
            Expect.equal("DROP", x.step(DROP, 0, any, any, any), 1);
            Expect.equal("NAME", x.step(NAME, 2, 0, any, any), 2);
            x.word(200);
            Expect.equal("NUMBER", x.step(NUMBER, 2, 0, 9, any), 3);
            Expect.equal("REFERENCE", x.step(REFERENCE, 3, 1, any, any), 4);
            Expect.equal("SPLIT", x.step(SPLIT, 4, 1, 2, any), 5);
            Expect.equal("change(0)", x.change(0), 2);
            Expect.equal("JOIN", x.step(JOIN, 4, any, any, any), 1);
            Expect.equal("change(0)", x.change(0), 3);
        }
    }

    private static void promise11NoStep() {
        Expect.sentence("Illegal argument: kind is not 0 .. 6, a or b is no name (where it should be) or no class, "
                + "b .. c is no range (b above c, or an end beyond), c is no set of names (1 .. 1023), "
                + "d is not 0 or 1, or the formula is not right");
        MigrantHeap x = Expect.heap(2);
        x.word(200);
        int f = FARTHEST;
        int[][] wrong = {
            {-1, 0, 0, 0, 0}, {7, 0, 0, 0, 0}, {MIN, 0, 0, 0, 0}, {MAX, 0, 0, 0, 0},
            {DROP, -1, 0, 0, 0}, {DROP, 10, 0, 0, 0}, {NAME, -1, 0, 0, 0}, {NAME, 10, 0, 0, 0},
            {NAME, 0, -1, 0, 0}, {NAME, 0, 10, 0, 0}, {NUMBER, -1, 0, 9, 0}, {NUMBER, 10, 0, 9, 0},
            {NUMBER, 0, 1, 0, 0}, {NUMBER, 0, -f - 1, 0, 0}, {NUMBER, 0, 0, f + 1, 0}, {NUMBER, 0, MAX, MIN, 0},
            {RANGE, -1, 0, 9, 0}, {RANGE, 10, 0, 9, 0}, {RANGE, 0, 1, 0, 0}, {RANGE, 0, -f - 1, 0, 0},
            {RANGE, 0, 0, f + 1, 0}, {RANGE, 0, 0, 9, -1}, {RANGE, 0, 0, 9, 2}, {RANGE, 0, 0, 9, MIN},
            {REFERENCE, -1, 0, 0, 0}, {REFERENCE, 10, 0, 0, 0}, {REFERENCE, 0, -1, 0, 0}, {REFERENCE, 0, 2, 0, 0},
            {SPLIT, -1, 1, 1, 0}, {SPLIT, 10, 1, 1, 0}, {SPLIT, 0, -1, 1, 0}, {SPLIT, 0, 2, 1, 0},
            {SPLIT, 0, 1, 0, 0}, {SPLIT, 0, 1, 1024, 0}, {SPLIT, 0, 1, -1, 0}, {SPLIT, 0, 1, MIN, 0},
            {JOIN, -1, 0, 0, 0}, {JOIN, 10, 0, 0, 0},
        };
        for (int[] s : wrong) {
            Expect.argument("step(" + s[0] + ", " + s[1] + ", " + s[2] + ", " + s[3] + ", " + s[4] + ")",
                    () -> x.step(s[0], s[1], s[2], s[3], s[4]));
        }
        Expect.argument("none of them waits", () -> x.change(0));
        int[][] right = {
            {DROP, 0, 0, 0, 0}, {DROP, 9, 0, 0, 0}, {NAME, 0, 9, 0, 0}, {NAME, 9, 0, 0, 0}, {RANGE, 9, -f, f, 0},
            {RANGE, 0, f, f, 1}, {RANGE, 0, -f, -f, 1}, {REFERENCE, 9, 1, 0, 0}, {SPLIT, 9, 1, 1, 0},
            {SPLIT, 0, 0, 1023, 0}, {JOIN, 0, 0, 0, 0}, {JOIN, 9, 0, 0, 0},
        };
        for (int[] s : right) {
            Expect.equal("step of kind " + s[0], Expect.heap(2).step(s[0], s[1], s[2], s[3], s[4]), 1);
        }
        Expect.equal("the word still waits", x.step(NUMBER, 9, -f, f, 0), 1);
        Expect.argument("a formula of no words", () -> x.step(NUMBER, 8, -f, f, 0));
        Expect.words(x, 200, 200);
        Expect.argument("a formula that leaves two", () -> x.step(NUMBER, 8, -f, f, 0));
        Expect.equal("they still wait", x.word(10), 3);
    }

    private static void promise11SixWait() {
        Expect.sentence("illegal state: six wait. (When it throws, words still wait.)");
        MigrantHeap x = Expect.heap(2);
        for (int i = 1; i <= 6; i++) {
            Expect.equal("a step", x.step(REFERENCE, i, 0, 0, 0), i);
        }
        x.word(203);
        int[][] seventh = {
            {DROP, 0, 0, 0, 0}, {NAME, 0, 1, 0, 0}, {NUMBER, 0, 0, 9, 0}, {RANGE, 0, 0, 9, 0},
            {REFERENCE, 0, 0, 0, 0}, {SPLIT, 0, 1, 1, 0}, {JOIN, 0, 0, 0, 0},
        };
        for (int[] s : seventh) {
            Expect.state("a seventh of kind " + s[0], () -> x.step(s[0], s[1], s[2], s[3], s[4]));
        }
        Expect.equal("the word still waits", x.word(204), 2);
        Expect.equal("the six are done", x.change(0), 1);
        Expect.equal("six fields", x.about(0, 3), 6);
        Expect.equal("then there is room for six again", x.step(DROP, 1, 0, 0, 0), 1);
    }

    private static void promise12TheNewestVersionThen() {
        Expect.sentence("Carries the script of all steps that wait out on a class: "
                + "the number of its newest version then.");
        MigrantHeap x = Expect.heap(2);
        x.make(0, 0);
        x.make(1, 1);
        x.step(REFERENCE, 0, 0, 0, 0);
        x.step(REFERENCE, 1, 0, 0, 0);
        Expect.equal("the first", x.change(0), 1);
        Expect.equal("all steps", x.about(0, 3), 2);
        Expect.equal("of the class alone", x.about(1, 0), 0);
        Expect.equal("no record is touched", x.versionOf(0), 0);
        x.step(REFERENCE, 2, 0, 0, 0);
        Expect.equal("the second", x.change(0), 2);
        x.takeBack(0);
        x.step(REFERENCE, 3, 0, 0, 0);
        Expect.equal("the second again", x.change(0), 2);
        Expect.equal("no record is touched", x.versionOf(0), 0);
    }

    private static void promise12NoStepWaitsThen() {
        Expect.sentence("No step waits then, whether it is refused or not (or the class has ten versions).");
        MigrantHeap x = tenVersions();
        x.step(REFERENCE, 0, 0, 0, 0);
        x.change(1);
        Expect.equal("carried out", x.step(DROP, 9, 0, 0, 0), 1);
        Expect.state("change(1)", () -> x.change(1));
        Expect.equal("refused", x.step(DROP, 0, 0, 0, 0), 1);
        Expect.state("change(0)", () -> x.change(0));
        Expect.argument("ten versions", () -> x.change(0));
        Expect.equal("none waits", x.step(DROP, 0, 0, 0, 0), 1);
    }

    /** Class 0 of two has ten versions, the newest with a reference 8. */
    private static MigrantHeap tenVersions() {
        MigrantHeap x = Expect.heap(2);
        Expect.change(x, 0, REFERENCE, 0, 0);
        for (int i = 0; i < 8; i++) {
            Expect.change(x, 0, NAME, i, i + 1);
        }
        return x;
    }

    private static void promise12NoneWaits() {
        Expect.sentence("Illegal argument: also if none waits (steps, words, and what fault() tells, stay as they are)");
        MigrantHeap x = Expect.heap(1);
        x.make(0, 0);
        x.step(REFERENCE, 0, 0, 0, 0);
        x.step(DROP, 9, 0, 0, 0);
        Expect.refused("a script", x, 0, 1);
        x.word(203);
        Expect.argument("none waits", () -> x.change(0));
        Expect.equal("what fault() tells", x.fault(), 1);
        Expect.equal("words", x.word(204), 2);
        x.word(10);
        x.step(REFERENCE, 3, 0, 0, 0);
        Expect.argument("no such class", () -> x.change(1));
        Expect.argument("no such class", () -> x.change(-1));
        Expect.equal("what fault() tells", x.fault(), 1);
        Expect.equal("steps", x.step(NUMBER, 4, 0, 9, 0), 2);
        Expect.equal("change(0)", x.change(0), 1);
        Expect.equal("the first of them", x.field(0, 0, 0), 3);
        Expect.equal("the words", x.get(0, 4), 7);
        MigrantHeap ten = tenVersions();
        Expect.argument("none waits, and ten versions", () -> ten.change(0));
    }

    private static void promise12TenVersions() {
        Expect.sentence("illegal state: it is refused, or the class has ten versions");
        MigrantHeap x = tenVersions();
        Expect.equal("the tenth", x.about(0, 0), 9);
        x.step(NAME, 8, 9, 0, 0);
        Expect.state("what could be done", () -> x.change(0));
        Expect.equal("the fault of that", x.fault(), -1);
        x.step(NAME, 9, 8, 0, 0);
        Expect.state("what could not be done", () -> x.change(0));
        Expect.equal("the fault of that", x.fault(), -1);
        Expect.equal("it has its field still", x.field(0, 0, 0), 8);
        x.takeBack(0);
        Expect.equal("with nine there is room", Expect.change(x, 0, NAME, 7, 9), 9);
    }

    private static void promise13AsTheyWere() {
        Expect.sentence("the version before is the newest one again, all records have their fields as they were then");
        MigrantHeap x = Expect.heap(2);
        Expect.addNumbers(x, 0, -9, 9, 0, 1);
        Expect.change(x, 0, REFERENCE, 2, 0);
        for (int root = 0; root < 3; root++) {
            x.make(0, root);
            x.set(root, 0, root * 4);
            x.link(root, 2, 0);
        }
        x.drop(2);
        x.step(RANGE, 0, 3, 5, 1);
        x.step(NAME, 1, 3, 0, 0);
        x.step(DROP, 2, 0, 0, 0);
        Expect.number(x, 1, 7, 7, 207);
        x.step(REFERENCE, 2, 1, 0, 0);
        x.change(0);
        Expect.equal("while it stands", x.get(0, 0), 3);
        Expect.equal("how many were touched", x.takeBack(0), 1);
        int[][] due = {{0, 0, -9, 9}, {1, 0, -9, 9}, {2, 1, 0, 0}};
        Expect.equal("fields", x.about(0, 3), due.length);
        for (int i = 0; i < due.length; i++) {
            for (int what = 0; what < 4; what++) {
                Expect.equal("field(0, " + i + ", " + what + ")", x.field(0, i, what), due[i][what]);
            }
        }
        for (int root = 0; root < 2; root++) {
            Expect.equal("a value that was cut", x.get(root, 0), root * 4);
            Expect.equal("a value that was there by another name", x.get(root, 1), 0);
            x.follow(root, 2, 5);
            Expect.yes("a reference that went", x.same(5, 0));
        }
        Expect.noElement("the name of a moment", () -> x.get(0, 3));
        MigrantHeap y = changed();
        y.word(203);
        y.step(REFERENCE, 5, 0, 0, 0);
        y.takeBack(0);
        Expect.equal("the step that waits stays", y.step(DROP, 0, 0, 0, 0), 2);
        Expect.equal("the word too", y.word(200), 2);
    }

    private static void promise13SixFields() {
        Expect.sentence("all records have their fields as they were then");
        MigrantHeap x = Expect.heap(1);
        x.make(0, 0);
        for (int i = 0; i < 6; i++) {
            Expect.number(x, i, 0, 9, 201 + i);
        }
        x.change(0);
        for (int i = 0; i < 6; i++) {
            x.step(DROP, i, 0, 0, 0);
        }
        x.change(0);
        Expect.equal("none", x.about(0, 3), 0);
        x.takeBack(0);
        Expect.equal("six that went", x.about(0, 3), 6);
        for (int i = 0; i < 6; i++) {
            Expect.equal("the number " + i, x.get(0, i), 1 + i);
        }
        MigrantHeap y = Expect.heap(1);
        y.make(0, 0);
        for (int i = 0; i < 6; i++) {
            y.step(REFERENCE, i, 0, 0, 0);
        }
        y.change(0);
        y.takeBack(0);
        Expect.equal("none where six came", y.about(0, 3), 0);
    }

    private static void promise13ARecordThatIsThereNoMore() {
        Expect.sentence("(a reference to a record that is there no more refers to nothing)");
        MigrantHeap x = Expect.heap(2);
        Expect.change(x, 0, REFERENCE, 0, 1);
        Expect.change(x, 0, REFERENCE, 1, 1);
        x.make(0, 0);
        x.make(1, 1);
        x.make(1, 2);
        x.link(0, 0, 1);
        x.link(0, 1, 2);
        x.step(DROP, 0, 0, 0, 0);
        x.step(DROP, 1, 0, 0, 0);
        x.change(0);
        x.drop(1);
        Expect.equal("collect()", x.collect(), 1);
        x.make(1, 1);
        x.takeBack(0);
        x.follow(0, 0, 3);
        Expect.no("one that is there no more", x.drop(3));
        x.follow(0, 1, 3);
        Expect.yes("one that is still there", x.same(3, 2));
        Expect.equal("nothing else goes", x.collect(), 0);
    }

    private static void promise13KeptAsTheOneBefore() {
        Expect.sentence("those kept as the version that goes are kept as the one before. How many of these.");
        MigrantHeap x = Expect.heap(1);
        x.make(0, 0);
        Expect.change(x, 0, REFERENCE, 0, 0);
        x.make(0, 1);
        x.make(0, 2);
        x.make(0, 3);
        Expect.change(x, 0, REFERENCE, 1, 0);
        x.touch(2);
        x.touch(3);
        x.drop(3);
        Expect.equal("two were touched, one of them in no root", x.takeBack(0), 2);
        Expect.equal("kept as 0", x.versionOf(0), 0);
        Expect.equal("kept as 1", x.versionOf(1), 1);
        Expect.equal("kept as 2 before", x.versionOf(2), 1);
        Expect.equal("one is not kept as the newest", x.about(0, 2), 1);
        Expect.change(x, 0, REFERENCE, 1, 0);
        Expect.equal("none was touched", x.takeBack(0), 0);
        Expect.change(x, 0, REFERENCE, 1, 0);
        x.sweep(0);
        Expect.equal("all were touched", x.takeBack(0), 4);
        Expect.equal("also that of version 0 then", x.versionOf(0), 1);
        Expect.equal("a class without records", empty().takeBack(0), 0);
    }

    private static MigrantHeap empty() {
        MigrantHeap x = Expect.heap(1);
        Expect.change(x, 0, REFERENCE, 0, 0);
        return x;
    }

    private static void promise13Once() {
        Expect.sentence("Takes the latest change of a class back (once: then not before another change of it)");
        MigrantHeap x = Expect.heap(2);
        for (int i = 0; i < 3; i++) {
            Expect.change(x, 0, REFERENCE, i, 0);
        }
        Expect.equal("the latest", x.takeBack(0), 0);
        Expect.equal("the version", x.about(0, 0), 2);
        Expect.state("the one before it", () -> x.takeBack(0));
        Expect.change(x, 1, REFERENCE, 0, 0);
        Expect.state("a change of another class", () -> x.takeBack(0));
        x.step(DROP, 9, 0, 0, 0);
        Expect.refused("a script", x, 0, 0);
        Expect.state("a script that was refused", () -> x.takeBack(0));
        Expect.equal("the version", x.about(0, 0), 2);
        Expect.equal("the other class is not touched by that", x.takeBack(1), 0);
        Expect.change(x, 0, REFERENCE, 9, 0);
        Expect.equal("another change of it", x.takeBack(0), 0);
        Expect.equal("the version", x.about(0, 0), 2);
        Expect.state("once", () -> x.takeBack(0));
    }

    private static void promise13Version0Alone() {
        Expect.sentence("illegal state: it has version 0 alone");
        MigrantHeap x = Expect.heap(2);
        x.make(0, 0);
        Expect.state("never changed", () -> x.takeBack(0));
        Expect.change(x, 0, REFERENCE, 0, 0);
        Expect.state("never changed, another was", () -> x.takeBack(1));
        Expect.equal("version 1", x.takeBack(0), 0);
        Expect.equal("version 0 again", x.about(0, 0) + x.about(0, 3), 0);
        Expect.state("version 0 alone again", () -> x.takeBack(0));
    }

    /** Classes 0 and 1 both have a number 0, by their only change. */
    private static MigrantHeap pair() {
        MigrantHeap x = Expect.heap(3);
        Expect.addNumbers(x, 0, 0, 9, 0);
        Expect.addNumbers(x, 1, 0, 9, 0);
        return x;
    }

    private static void promise13HadASplitOrJoin() {
        Expect.sentence("or the change had a SPLIT or JOIN");
        for (int records = 0; records < 2; records++) {
            for (int at = 0; at < 2; at++) {
                MigrantHeap x = pair();
                if (records == 1) {
                    x.make(0, 0);
                }
                withAnother(x, at, SPLIT, 5, 1, 1);
                Expect.state("a SPLIT at step " + at, () -> x.takeBack(0));
                withAnother(x, at, JOIN, 5, 0, 0);
                Expect.state("a JOIN at step " + at, () -> x.takeBack(0));
                Expect.equal("it stands", x.about(0, 0), 3);
                Expect.change(x, 0, NAME, 0, 9);
                Expect.equal("the next change", x.takeBack(0), 0);
                Expect.state("not the JOIN then", () -> x.takeBack(0));
            }
        }
    }

    /** A change of class 0 by two steps, the one that is named being the first or the second of them. */
    private static void withAnother(MigrantHeap x, int at, int kind, int a, int b, int c) {
        if (at == 1) {
            x.step(REFERENCE, kind + 2, 0, 0, 0);
        }
        x.step(kind, a, b, c, 0);
        if (at == 0) {
            x.step(REFERENCE, kind + 2, 0, 0, 0);
        }
        x.change(0);
    }

    private static void promise13ARecordWasMade() {
        Expect.sentence("or since then a record of the class was made");
        barred("make()", x -> x.make(0, 7));
        barred("make(), and it is there no more", x -> {
            x.make(0, 7);
            x.drop(7);
            x.collect();
        });
        MigrantHeap x = pair();
        Expect.change(x, 0, SPLIT, 5, 1, 1);
        Expect.change(x, 1, RANGE, 0, 0, 5, 1);
        x.make(0, 0);
        Expect.state("with its owner", () -> x.takeBack(1));
        MigrantHeap y = pair();
        y.make(0, 0);
        Expect.equal("a record of another class", y.takeBack(1), 0);
        Expect.state("of the class", () -> y.takeBack(0));
    }

    /** Root 0 holds a record of class 0, which has a number 0 and a reference 1; root 1 one of class 1, likewise. */
    private static MigrantHeap changed() {
        MigrantHeap x = Expect.heap(3);
        for (int c = 0; c < 2; c++) {
            Expect.number(x, 0, 0, 9, 200);
            Expect.put(x, REFERENCE, 1, 0);
            x.change(c);
            x.make(c, c);
        }
        Expect.change(x, 0, REFERENCE, 2, 1);
        Expect.change(x, 1, REFERENCE, 2, 1);
        return x;
    }

    private static void barred(String what, Consumer<MigrantHeap> since) {
        MigrantHeap x = changed();
        since.accept(x);
        Expect.state("takeBack(0) after " + what, () -> x.takeBack(0));
        Expect.equal("the version", x.about(0, 0), 2);
        Expect.equal("the other class", x.takeBack(1), 0);
        Expect.change(x, 0, REFERENCE, 3, 1);
        x.takeBack(0);
        Expect.equal("the next change is taken back", x.about(0, 0), 2);
    }

    private static void promise13ChangedBySetOrLink() {
        Expect.sentence("or changed by set() or link()");
        barred("set()", x -> x.set(0, 0, 1));
        barred("set() there and back", x -> {
            x.set(0, 0, 1);
            x.set(0, 0, 0);
        });
        barred("link()", x -> x.link(0, 1, 0));
        barred("link() of a new field", x -> x.link(0, 2, 1));
        barred("link() there and back", x -> {
            x.link(0, 1, 0);
            x.link(0, 1, 7);
        });
        barred("set(), and it is there no more", x -> {
            x.set(0, 0, 1);
            x.drop(0);
            x.collect();
        });
    }

    private static void promise13ASplitToItOrAJoinOfIt() {
        Expect.sentence("or a change of another class had a SPLIT to it or a JOIN of it");
        for (int records = 0; records < 2; records++) {
            MigrantHeap x = pair();
            if (records == 1) {
                x.make(0, 0);
            }
            Expect.addNumbers(x, 2, 0, 9, 0);
            Expect.change(x, 0, SPLIT, 5, 1, 1);
            Expect.state("a SPLIT to it", () -> x.takeBack(1));
            Expect.equal("a SPLIT to another", x.takeBack(2), 0);
            Expect.change(x, 1, RANGE, 0, 0, 5, 1);
            Expect.change(x, 2, REFERENCE, 0, 0);
            Expect.change(x, 0, JOIN, 5);
            Expect.state("a JOIN of it", () -> x.takeBack(1));
            Expect.equal("a JOIN of another", x.takeBack(2), 0);
            Expect.change(x, 1, RANGE, 0, 0, 3, 1);
            Expect.equal("the next change", x.takeBack(1), 0);
        }
        MigrantHeap y = pair();
        y.step(SPLIT, 5, 1, 1, 0);
        y.step(DROP, 9, 0, 0, 0);
        Expect.refused("a script with a SPLIT to it", y, 0, 1);
        Expect.equal("is no change", y.takeBack(1), 0);
    }

    private static void promise13WhatDoesNotBar() {
        Expect.sentence("illegal state: .. or changed by set() or link()");
        MigrantHeap x = changed();
        x.get(0, 0);
        x.follow(0, 1, 6);
        x.touch(0);
        x.sweep(0);
        x.same(0, 1);
        x.versionOf(0);
        x.about(0, 2);
        x.make(1, 5);
        x.make(2, 4);
        x.set(1, 0, 5);
        x.link(1, 1, 0);
        x.collect();
        Expect.change(x, 2, REFERENCE, 0, 0);
        Expect.state("set() that throws", () -> x.set(0, 0, 10));
        Expect.state("link() that throws", () -> x.link(0, 1, 1));
        x.step(DROP, 9, 0, 0, 0);
        Expect.refused("change() that throws", x, 0, 0);
        Expect.equal("nothing of that bars it", x.takeBack(0), 1);
        x.follow(1, 1, 6);
        Expect.yes("a link to the record stays", x.same(0, 6));
    }

    private static void promise14HoldsNothing() {
        Expect.sentence("As which version the record in a root is kept; it is not touched. "
                + "Illegal argument; no such element: it holds nothing.");
        MigrantHeap x = tenVersions();
        for (int root = 0; root < 8; root++) {
            int empty = root;
            Expect.noElement("versionOf(" + root + ")", () -> x.versionOf(empty));
        }
        x.make(0, 0);
        x.make(1, 7);
        Expect.equal("the tenth version", x.versionOf(0), 9);
        Expect.change(x, 1, REFERENCE, 0, 0);
        Expect.equal("version 0", x.versionOf(7), 0);
        Expect.equal("it is not touched", x.versionOf(7), 0);
    }

    private static void promise15HowManyVersionsLater() {
        Expect.sentence("Touches the record in a root: how many versions later it is kept now. "
                + "Illegal argument; no such element: it holds nothing.");
        MigrantHeap x = Expect.heap(1);
        x.make(0, 0);
        x.make(0, 1);
        Expect.equal("none", x.touch(0), 0);
        Expect.change(x, 0, REFERENCE, 0, 0);
        for (int i = 0; i < 8; i++) {
            Expect.change(x, 0, NAME, i, i + 1);
            if (i == 3) {
                Expect.equal("five", x.touch(1), 5);
            }
        }
        Expect.equal("all nine", x.touch(0), 9);
        Expect.equal("four", x.touch(1), 4);
        Expect.equal("none then", x.touch(0), 0);
        Expect.equal("kept as the newest", x.versionOf(0), 9);
        x.takeBack(0);
        Expect.equal("none when it was taken back", x.touch(0), 0);
        for (int root = 2; root < 8; root++) {
            int empty = root;
            Expect.noElement("touch(" + root + ")", () -> x.touch(empty));
        }
    }

    private static void promise16NotKeptAsTheNewest() {
        Expect.sentence("Touches all records of a class: how many were not kept as its newest version.");
        MigrantHeap x = Expect.heap(2);
        Expect.equal("no records", x.sweep(0), 0);
        for (int i = 0; i < 12; i++) {
            x.make(0, 0);
            x.make(1, 1);
        }
        Expect.equal("all are kept so", x.sweep(0), 0);
        Expect.change(x, 0, REFERENCE, 0, 0);
        Expect.change(x, 0, REFERENCE, 1, 0);
        Expect.change(x, 1, REFERENCE, 0, 0);
        x.touch(0);
        Expect.equal("all but one, each counted once", x.sweep(0), 11);
        Expect.equal("none is late then", x.about(0, 2), 0);
        Expect.equal("none", x.sweep(0), 0);
        Expect.equal("of the other class all are late still", x.about(1, 2), 12);
        x.takeBack(0);
        Expect.equal("none when it was taken back", x.sweep(0), 0);
        Expect.equal("all, late by one version", x.sweep(1), 12);
        Expect.equal("kept as it", x.versionOf(1), 1);
    }

    private static void promise17NoRootLeads() {
        Expect.sentence("All records to which no root leads (by what it holds, and from a record by any reference "
                + "of its newest version) are there no more: how many.");
        MigrantHeap x = Expect.heap(2);
        Expect.equal("no records", x.collect(), 0);
        Expect.change(x, 0, REFERENCE, 0, 0);
        Expect.change(x, 0, REFERENCE, 9, 1);
        for (int i = 0; i < 24; i++) {
            x.make(i % 2, 7);
        }
        Expect.equal("all but the one in a root", x.collect(), 23);
        x.drop(7);
        Expect.equal("the last", x.collect(), 1);
        x.make(0, 0);
        for (int i = 1; i < 23; i++) {
            x.make(0, i % 2);
            x.link(i % 2, 0, 1 - i % 2);
        }
        x.drop(1);
        Expect.equal("a chain that one root leads to", x.about(0, 1), 23);
        x.make(1, 5);
        Expect.equal("a full heap, all led to", x.collect(), 0);
        x.link(0, 9, 5);
        x.drop(5);
        Expect.equal("by a reference to another class", x.collect(), 0);
        x.link(0, 0, 0);
        Expect.equal("all behind the first", x.collect(), 22);
        x.drop(0);
        Expect.equal("a ring of one, and what it leads to", x.collect(), 2);
    }

    private static void promise17AllReferToAll() {
        Expect.sentence("All records to which no root leads .. are there no more");
        MigrantHeap x = Expect.heap(1);
        for (int i = 0; i < 6; i++) {
            x.step(REFERENCE, i, 0, 0, 0);
        }
        x.change(0);
        x.make(0, 0);
        for (int i = 1; i < 24; i++) {
            x.make(0, 1);
            for (int name = 0; name < 4; name++) {
                x.link(0, name, 1);
                x.link(1, name, 0);
            }
            x.link(1, 4, 1);
            x.follow(0, 5, 2);
            x.link(1, 5, 2);
            x.link(0, 5, 1);
        }
        for (int root = 1; root < 8; root++) {
            x.drop(root);
        }
        Expect.equal("24 in rings, by one root", x.collect(), 0);
        Expect.equal("they are there", x.about(0, 1), 24);
        x.drop(0);
        Expect.equal("24 in rings, by none", x.collect(), 24);
    }

    private static void promise17ByTheNewestVersion() {
        Expect.sentence("from a record by any reference of its newest version");
        MigrantHeap x = chain();
        Expect.change(x, 0, REFERENCE, 0, 3);
        x.make(0, 0);
        x.make(3, 1);
        x.link(0, 0, 1);
        x.drop(1);
        Expect.equal("by owning ones too", x.collect(), 0);
        Expect.change(x, 0, NAME, 0, 9);
        Expect.equal("by one that was renamed", x.collect(), 0);
        Expect.change(x, 0, DROP, 9);
        Expect.equal("not by one that was dropped", x.collect(), 1);
        Expect.equal("though the record is kept as an older one", x.versionOf(0), 3);
        x.follow(0, 5, 1);
        x.drop(0);
        Expect.equal("not from an owned one to its owner", x.collect(), 1);
        Expect.equal("what it owns stays", records(x), 3);
    }

    private static void promise18About() {
        Expect.sentence("what = 0: its newest version; 1: how many records it has; "
                + "2: how many of them are not kept as that; 3: how many fields the newest version has");
        MigrantHeap x = Expect.heap(2);
        for (int what = 0; what < 4; what++) {
            Expect.equal("a new class, " + what, x.about(0, what), 0);
        }
        for (int i = 0; i < 24; i++) {
            x.make(0, 0);
        }
        Expect.equal("24 records", x.about(0, 1), 24);
        Expect.equal("of another class none", x.about(1, 1), 0);
        for (int i = 0; i < 6; i++) {
            x.step(REFERENCE, i, 0, 0, 0);
        }
        x.change(0);
        Expect.equal("version 1", x.about(0, 0), 1);
        Expect.equal("all are late", x.about(0, 2), 24);
        Expect.equal("six fields", x.about(0, 3), 6);
        x.touch(0);
        Expect.equal("one was touched", x.about(0, 2), 23);
        Expect.equal("those in no root count till collect()", x.about(0, 1), 24);
        x.collect();
        Expect.equal("one is left", x.about(0, 1), 1);
        Expect.equal("none is late", x.about(0, 2), 0);
    }

    private static void promise18NoneOfThese() {
        Expect.sentence("Illegal argument: also if what is none of these.");
        MigrantHeap x = Expect.heap(1);
        for (int what : new int[] {MIN, -1, 4, 5, MAX}) {
            Expect.argument("about(0, " + what + ")", () -> x.about(0, what));
        }
    }

    private static void promise19Field() {
        Expect.sentence("what = 0: its name; 1: 0 a number, 1 a reference, 2 an owning one; "
                + "2 and 3: the ends of its range (of a reference the class, both)");
        MigrantHeap x = Expect.heap(4);
        Expect.addNumbers(x, 2, -9, 9, 0);
        Expect.number(x, 0, 0, 9, 200);
        Expect.number(x, 9, -FARTHEST, FARTHEST, 200);
        Expect.put(x, REFERENCE, 4, 3);
        Expect.put(x, REFERENCE, 5, 0);
        Expect.put(x, SPLIT, 0, 2, 1);
        x.change(0);
        int[][] due = {{9, 0, -FARTHEST, FARTHEST}, {4, 1, 3, 3}, {5, 1, 0, 0}, {0, 2, 2, 2}};
        for (int i = 0; i < due.length; i++) {
            for (int what = 0; what < 4; what++) {
                Expect.equal("field(0, " + i + ", " + what + ")", x.field(0, i, what), due[i][what]);
            }
        }
    }

    private static void promise19NoSuchField() {
        Expect.sentence("Illegal argument: also if what is none of these; "
                + "index out of bounds: there is no such field.");
        MigrantHeap x = Expect.heap(1);
        for (int size = 0; size <= 6; size++) {
            int behind = size;
            for (int i : new int[] {MIN, -1, behind, MAX}) {
                Expect.bounds("field(0, " + i + ", 0) of " + size, () -> x.field(0, i, 0));
                Expect.argument("field(0, " + i + ", 4) of " + size, () -> x.field(0, i, 4));
            }
            if (size < 6) {
                Expect.change(x, 0, REFERENCE, size, 0);
                Expect.equal("the last of " + (size + 1), x.field(0, size, 0), size);
            }
        }
        for (int what : new int[] {MIN, -1, 4, MAX}) {
            Expect.argument("field(0, 0, " + what + ")", () -> x.field(0, 0, what));
        }
        x.takeBack(0);
        Expect.bounds("one that was taken back", () -> x.field(0, 5, 0));
    }

    private static void promise20WhichStep() {
        Expect.sentence("At which step (from 0) the latest change() refused its script");
        MigrantHeap x = Expect.heap(1);
        for (int at = 5; at >= 0; at--) {
            for (int i = 0; i < 6; i++) {
                x.step(i == at ? DROP : REFERENCE, i == at ? 9 : i, 0, 0, 0);
            }
            Expect.state("change(0)", () -> x.change(0));
            Expect.equal("the step", x.fault(), at);
            Expect.equal("asked again", x.fault(), at);
        }
    }

    private static void promise20None() {
        Expect.sentence("-1 when it did not, or the class had ten versions, or there was none "
                + "(one with an illegal argument does not count)");
        MigrantHeap none = new MigrantHeap();
        Expect.equal("there was none", none.fault(), -1);
        Expect.argument("no class", () -> none.change(0));
        Expect.equal("there was none that counts", none.fault(), -1);
        MigrantHeap x = tenVersions();
        Expect.equal("it did not", x.fault(), -1);
        x.step(REFERENCE, 0, 0, 0, 0);
        x.step(DROP, 7, 0, 0, 0);
        Expect.refused("refused", x, 1, 1);
        x.step(DROP, 7, 0, 0, 0);
        Expect.refused("ten versions", x, 0, -1);
        x.step(REFERENCE, 0, 0, 0, 0);
        x.step(DROP, 7, 0, 0, 0);
        Expect.refused("refused", x, 1, 1);
        x.step(DROP, 8, 0, 0, 0);
        Expect.argument("no class", () -> x.change(2));
        Expect.equal("it does not count", x.fault(), 1);
        x.takeBack(0);
        Expect.equal("takeBack() is no change()", x.fault(), 1);
        Expect.state("change(1)", () -> x.change(1));
        Expect.equal("the one before is forgotten", x.fault(), 0);
        Expect.change(x, 1, REFERENCE, 0, 0);
        Expect.equal("it did not", x.fault(), -1);
        Expect.argument("none waits", () -> x.change(1));
        Expect.equal("it does not count", x.fault(), -1);
    }
}
