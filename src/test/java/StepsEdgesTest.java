/** The edges that the document names for each kind of step: what can just be done, and what can't any more. */
public final class StepsEdgesTest {
    private static final int DROP = 0;
    private static final int NAME = 1;
    private static final int RANGE = 3;
    private static final int REFERENCE = 4;
    private static final int SPLIT = 5;
    private static final int JOIN = 6;

    private StepsEdgesTest() {
    }

    public static void main(String[] args) {
        dropWhatIsThere();
        dropLeavesTheOthers();
        dropNotOwning();
        nameWhatIsThere();
        nameNoOtherHas();
        numberComesLast();
        numberNotThere();
        numberNotWithSix();
        numberOfOldNumbersOnly();
        numberByOldNamesAndRanges();
        numberWithinItsRange();
        rangeOfNumbersOnly();
        rangeCutsToTheNearerEnd();
        rangeMustHoldTheOneBefore();
        referenceToNothing();
        referenceNotThereNorWithSix();
        splitToAnotherClass();
        splitOfEachRecord();
        splitOfNumbersOnly();
        splitOfJustThose();
        splitToNoReferences();
        splitIntoWiderRanges();
        splitNameNotLeft();
        splitOfSix();
        splitToAtMost24();
        splitCountsStepsBefore();
        splitCountsNoOtherSteps();
        splitWhereAJoinMadeRoom();
        splitIsKeptAsTheNewest();
        joinOfTheOwningReference();
        joinComesLastInOrder();
        joinOfNoFields();
        joinOfNoReferences();
        joinEndsTheRecords();
        joinOfAnOldField();
        joinNamesNotThere();
        joinToAtMostSix();
        joinHeldByNoRoot();
        Expect.end();
    }

    private static void step(MigrantHeap x, int kind, int... rest) {
        Expect.put(x, kind, rest);
    }

    private static void refused(String what, MigrantHeap x, int at) {
        Expect.refused(what, x, 0, at);
    }

    /** Three classes, of which class 0 has numbers of these names from -9 to 9. */
    private static MigrantHeap numbers(int... names) {
        MigrantHeap x = Expect.heap(3);
        Expect.addNumbers(x, 0, -9, 9, names);
        return x;
    }

    /** Class 0 has the numbers 0, 1, 2 (-9 .. 9), class 1 has 2 and 0 (-9 .. 9 too). */
    private static MigrantHeap splitting() {
        MigrantHeap x = numbers(0, 1, 2);
        Expect.addNumbers(x, 1, -9, 9, 2, 0);
        return x;
    }

    /** The numbers 0 and 2 of class 0 are split off, by 5. Root 0 holds a record with the values 3, 4, 5. */
    private static MigrantHeap split() {
        MigrantHeap x = splitting();
        x.make(0, 0);
        for (int name = 0; name < 3; name++) {
            x.set(0, name, 3 + name);
        }
        Expect.change(x, 0, SPLIT, 5, 1, 5);
        return x;
    }

    private static void names(MigrantHeap x, int c, int... due) {
        Expect.equal("how many fields", x.about(c, 3), due.length);
        for (int i = 0; i < due.length && i < x.about(c, 3); i++) {
            Expect.equal("the name of field " + i, x.field(c, i, 0), due[i]);
        }
    }

    private static void dropWhatIsThere() {
        Expect.sentence("DROP a: the field a of F goes; it must be there");
        MigrantHeap empty = Expect.heap(1);
        step(empty, DROP, 0);
        refused("of version 0", empty, 0);
        MigrantHeap x = numbers(0, 1, 2);
        step(x, DROP, 3);
        refused("never there", x, 0);
        step(x, DROP, 0);
        step(x, DROP, 0);
        refused("gone before", x, 1);
        step(x, NAME, 0, 3);
        step(x, DROP, 0);
        refused("by its old name", x, 1);
        step(x, NAME, 0, 3);
        step(x, DROP, 3);
        step(x, REFERENCE, 4, 0);
        step(x, DROP, 4);
        x.change(0);
        names(x, 0, 1, 2);
        step(x, DROP, 1);
        step(x, DROP, 2);
        x.change(0);
        names(x, 0);
        step(x, DROP, 1);
        refused("of a version that has none left", x, 0);
    }

    private static void dropLeavesTheOthers() {
        Expect.sentence("DROP a: the field a of F goes");
        for (int gone = 0; gone < 6; gone++) {
            MigrantHeap x = numbers(0, 1, 2, 3, 4, 5);
            x.make(0, 0);
            for (int name = 0; name < 6; name++) {
                x.set(0, name, 3 + name);
            }
            Expect.change(x, 0, DROP, gone);
            for (int name = 0; name < 6; name++) {
                int asked = name;
                if (name == gone) {
                    Expect.noElement("the one that went", () -> x.get(0, asked));
                } else {
                    Expect.equal("the number " + name + " without " + gone, x.get(0, name), 3 + name);
                }
            }
        }
    }

    private static void dropNotOwning() {
        Expect.sentence("DROP a: the field a of F goes; it must be there, and not owning.");
        MigrantHeap x = split();
        step(x, DROP, 5);
        refused("an owning field", x, 0);
        step(x, NAME, 5, 6);
        step(x, DROP, 6);
        refused("an owning field that was renamed", x, 1);
        step(x, REFERENCE, 6, 1);
        step(x, DROP, 6);
        Expect.equal("a reference to the same class", x.change(0), 3);
        MigrantHeap y = splitting();
        step(y, SPLIT, 5, 1, 5);
        step(y, DROP, 5);
        refused("an owning field of the same script", y, 1);
    }

    private static void nameWhatIsThere() {
        Expect.sentence("NAME a, b: the field a of F is named b then; it must be there");
        MigrantHeap x = split();
        Expect.change(x, 0, REFERENCE, 7, 0);
        x.link(0, 7, 0);
        step(x, NAME, 9, 8);
        refused("not there", x, 0);
        step(x, NAME, 1, 0);
        step(x, NAME, 1, 8);
        refused("by its old name", x, 1);
        step(x, NAME, 1, 0);
        step(x, NAME, 5, 1);
        step(x, NAME, 7, 5);
        x.change(0);
        names(x, 0, 0, 1, 5);
        Expect.equal("a number has its value", x.get(0, 0), 4);
        x.follow(0, 1, 2);
        Expect.equal("an owning field its record", x.get(2, 0), 3);
        x.follow(0, 5, 2);
        Expect.yes("a reference too", x.same(0, 2));
    }

    private static void nameNoOtherHas() {
        Expect.sentence("NAME a, b: .. it must be there, and no field b");
        MigrantHeap x = numbers(0, 1);
        step(x, NAME, 0, 1);
        refused("another's name", x, 0);
        step(x, NAME, 0, 0);
        refused("its own name", x, 0);
        step(x, REFERENCE, 2, 0);
        step(x, NAME, 0, 2);
        refused("the name of a new one", x, 1);
        step(x, DROP, 1);
        step(x, NAME, 0, 1);
        step(x, NAME, 1, 0);
        step(x, NAME, 0, 1);
        Expect.equal("names that are there no more", x.change(0), 2);
        names(x, 0, 1);
    }

    private static void numberComesLast() {
        Expect.sentence("NUMBER a, b, c: a number a with the range b .. c comes last");
        MigrantHeap x = numbers(4);
        x.make(0, 0);
        Expect.number(x, 3, -7, 8, 200);
        Expect.number(x, 9, 6, 6, 206);
        x.change(0);
        names(x, 0, 4, 3, 9);
        Expect.equal("sort", x.field(0, 1, 1), 0);
        Expect.equal("low", x.field(0, 1, 2), -7);
        Expect.equal("high", x.field(0, 1, 3), 8);
        Expect.equal("a range of one number", x.get(0, 9), 6);
    }

    private static void numberNotThere() {
        Expect.sentence("NUMBER a, b, c: .. no field a may be there");
        MigrantHeap x = split();
        Expect.change(x, 0, REFERENCE, 7, 0);
        for (int name : new int[] {1, 5, 7}) {
            Expect.number(x, name, 0, 9, 200);
            refused("the field " + name, x, 0);
        }
        Expect.number(x, 8, 0, 9, 200);
        Expect.number(x, 8, 0, 9, 200);
        refused("twice", x, 1);
        step(x, DROP, 1);
        Expect.number(x, 1, 0, 9, 202);
        Expect.equal("one that went", x.change(0), 4);
        Expect.equal("it is a new one", x.get(0, 1), 2);
    }

    private static void numberNotWithSix() {
        Expect.sentence("NUMBER a, b, c: .. no field a may be there, nor six");
        MigrantHeap x = numbers(0, 1, 2, 3, 4);
        Expect.number(x, 5, 0, 9, 200);
        Expect.number(x, 6, 0, 9, 200);
        refused("with six, in one script", x, 1);
        Expect.number(x, 5, 0, 9, 200);
        Expect.equal("with five", x.change(0), 2);
        Expect.number(x, 6, 0, 9, 200);
        refused("with six", x, 0);
        step(x, DROP, 5);
        Expect.number(x, 6, 0, 9, 200);
        Expect.equal("with five again", x.change(0), 3);
    }

    private static void numberOfOldNumbersOnly() {
        Expect.sentence("the formula must name only old numbers");
        MigrantHeap x = split();
        Expect.change(x, 0, REFERENCE, 7, 0);
        Expect.number(x, 8, -9, 9, 9);
        refused("no field", x, 0);
        Expect.number(x, 8, -9, 9, 7);
        refused("a reference", x, 0);
        Expect.number(x, 8, -9, 9, 5);
        refused("an owning one", x, 0);
        Expect.number(x, 8, -9, 9, 1, 9, 14);
        refused("one that is there and one that is not", x, 0);
        Expect.number(x, 8, -9, 9, 200);
        Expect.number(x, 9, -9, 9, 8);
        refused("one of the same script", x, 1);
        Expect.number(x, 8, -9, 9, 8);
        refused("itself", x, 0);
        step(x, JOIN, 5);
        Expect.number(x, 8, -9, 9, 2);
        refused("a joined one", x, 1);
        Expect.number(x, 8, -9, 9, 1);
        Expect.equal("an old one", x.change(0), 4);
        Expect.equal("its value", x.get(0, 8), 4);
    }

    private static void numberByOldNamesAndRanges() {
        Expect.sentence("by their old names and with their old ranges, whatever steps before did to them");
        MigrantHeap x = splitting();
        x.make(0, 0);
        x.set(0, 0, 8);
        x.set(0, 1, 7);
        x.set(0, 2, 6);
        step(x, NAME, 1, 9);
        Expect.number(x, 8, -9, 9, 9);
        refused("by its new name", x, 1);
        step(x, RANGE, 1, -1, 1, 1);
        Expect.number(x, 8, -1, 1, 1);
        refused("with its new range", x, 1);
        step(x, RANGE, 1, -1, 1, 1);
        step(x, NAME, 1, 3);
        step(x, SPLIT, 4, 1, 5);
        Expect.number(x, 1, -9, 9, 1);
        Expect.number(x, 6, -9, 9, 0);
        Expect.number(x, 7, -18, 18, 1, 2, 10);
        Expect.equal("of one cut and renamed, and of those that went", x.change(0), 2);
        Expect.equal("the old value of the cut one", x.get(0, 1), 7);
        Expect.equal("that one is cut", x.get(0, 3), 1);
        Expect.equal("the old value of one split off", x.get(0, 6), 8);
        Expect.equal("of both", x.get(0, 7), 13);
        step(x, DROP, 6);
        Expect.number(x, 6, -9, 9, 6, 16);
        Expect.equal("of a dropped one of the same name", x.change(0), 3);
        Expect.equal("its old value", x.get(0, 6), -8);
    }

    private static void numberWithinItsRange() {
        Expect.sentence("by RANGES it must not trap, and its range lie within b .. c");
        MigrantHeap x = numbers(0);
        Expect.number(x, 1, -8, 9, 0);
        refused("one too high at the low end", x, 0);
        Expect.number(x, 1, -9, 8, 0);
        refused("one too low at the high end", x, 0);
        Expect.number(x, 1, 3, 3, 204);
        refused("a number outside", x, 0);
        Expect.number(x, 1, -9, 9, 201, 0, 13);
        refused("a trap", x, 0);
        x.make(0, 0);
        x.set(0, 0, 5);
        Expect.number(x, 1, -9, 9, 210, 0, 13);
        refused("a trap, though not for the value that is there", x, 0);
        Expect.number(x, 1, 0, 8, 0);
        refused("a range that reaches out, though the value that is there does not", x, 0);
        Expect.number(x, 1, -9, 9, 0);
        Expect.equal("just within", x.change(0), 2);
    }

    private static void rangeOfNumbersOnly() {
        Expect.sentence("RANGE a, b, c, d: the number a of F has the range b .. c then");
        MigrantHeap x = split();
        Expect.change(x, 0, REFERENCE, 7, 0);
        for (int name : new int[] {5, 7, 9}) {
            for (int d = 0; d < 2; d++) {
                step(x, RANGE, name, -1000000, 1000000, d);
                refused("no number " + name, x, 0);
            }
        }
        step(x, NAME, 1, 2);
        step(x, RANGE, 1, -9, 9, 1);
        refused("by its old name", x, 1);
        Expect.number(x, 8, 0, 9, 203);
        step(x, RANGE, 8, 1, 2, 1);
        step(x, JOIN, 5);
        step(x, RANGE, 0, 0, 1, 1);
        Expect.equal("a new one and a joined one", x.change(0), 4);
        Expect.equal("the new one is cut", x.get(0, 8), 2);
        Expect.equal("the joined one too", x.get(0, 0), 1);
    }

    private static void rangeCutsToTheNearerEnd() {
        Expect.sentence("with d = 1 each value outside becomes the end that is nearer");
        int[] before = {-9, -3, -2, -1, 1, 2, 3, 9};
        int[] after = {-2, -2, -2, -1, 1, 2, 2, 2};
        MigrantHeap x = numbers(0);
        for (int root = 0; root < 8; root++) {
            x.make(0, root);
            x.set(root, 0, before[root]);
        }
        Expect.change(x, 0, RANGE, 0, -2, 2, 1);
        for (int root = 0; root < 8; root++) {
            Expect.equal("the value " + before[root], x.get(root, 0), after[root]);
        }
        step(x, RANGE, 0, -1, 0, 1);
        step(x, RANGE, 0, -9, 9, 1);
        x.change(0);
        Expect.equal("cut by the first of two", x.get(0, 0), -1);
        Expect.equal("cut by the first of two", x.get(7, 0), 0);
        Expect.change(x, 0, RANGE, 0, 7, 8, 1);
        Expect.equal("all below", x.get(7, 0), 7);
        Expect.change(x, 0, RANGE, 0, -8, -7, 1);
        Expect.equal("all above", x.get(7, 0), -7);
    }

    private static void rangeMustHoldTheOneBefore() {
        Expect.sentence("with d = 0 its range before must lie within b .. c");
        MigrantHeap x = numbers(0);
        x.make(0, 0);
        step(x, RANGE, 0, -8, 9, 0);
        refused("one too high at the low end", x, 0);
        step(x, RANGE, 0, -9, 8, 0);
        refused("one too low at the high end", x, 0);
        step(x, RANGE, 0, 0, 0, 0);
        refused("the value alone", x, 0);
        step(x, RANGE, 0, -9, 9, 0);
        Expect.equal("the same", x.change(0), 2);
        step(x, RANGE, 0, -10, 10, 0);
        Expect.equal("one more at each end", x.change(0), 3);
        step(x, RANGE, 0, -9, 10, 0);
        refused("the range of the change before counts", x, 0);
        step(x, RANGE, 0, 0, 1, 1);
        step(x, RANGE, 0, 0, 1, 0);
        Expect.equal("the range of the step before counts", x.change(0), 4);
    }

    private static void referenceToNothing() {
        Expect.sentence("REFERENCE a, b: a reference to class b, not owning, comes last; it refers to nothing");
        MigrantHeap x = numbers(4);
        x.make(0, 0);
        for (int c = 0; c < 3; c++) {
            step(x, REFERENCE, c, c);
        }
        x.change(0);
        names(x, 0, 4, 0, 1, 2);
        for (int c = 0; c < 3; c++) {
            Expect.equal("its sort", x.field(0, c + 1, 1), 1);
            Expect.equal("its class", x.field(0, c + 1, 2), c);
            x.make(c, 1);
            x.follow(0, c, 1);
            Expect.no("what it refers to", x.drop(1));
        }
        x.link(0, 0, 0);
        step(x, DROP, 0);
        step(x, REFERENCE, 0, 0);
        x.change(0);
        x.follow(0, 0, 1);
        Expect.no("a new one for one that went", x.drop(1));
        x.link(0, 0, 0);
        step(x, DROP, 0);
        step(x, REFERENCE, 9, 0);
        x.change(0);
        x.follow(0, 9, 1);
        Expect.no("a new one for the last one", x.drop(1));
        MigrantHeap y = Expect.heap(1);
        y.make(0, 0);
        for (int i = 0; i < 4; i++) {
            Expect.number(y, 0, 1, 9, 201);
            y.change(0);
            step(y, DROP, 0);
            step(y, REFERENCE, i + 1, 0);
            y.change(0);
            y.follow(0, i + 1, 1);
            Expect.no("one in place of a number", y.drop(1));
        }
    }

    private static void referenceNotThereNorWithSix() {
        Expect.sentence("REFERENCE a, b: .. no field a may be there, nor six");
        MigrantHeap x = numbers(0, 1, 2, 3);
        step(x, REFERENCE, 0, 0);
        refused("a number's name", x, 0);
        step(x, REFERENCE, 4, 0);
        step(x, REFERENCE, 4, 1);
        refused("a reference's name", x, 1);
        step(x, REFERENCE, 4, 0);
        step(x, REFERENCE, 5, 0);
        step(x, REFERENCE, 6, 0);
        refused("with six, in one script", x, 2);
        step(x, REFERENCE, 4, 0);
        step(x, REFERENCE, 5, 0);
        Expect.equal("with five", x.change(0), 2);
        step(x, REFERENCE, 6, 0);
        refused("with six", x, 0);
    }

    private static void splitToAnotherClass() {
        Expect.sentence("SPLIT a, b, c: an owning reference a to another class b comes last");
        MigrantHeap x = splitting();
        step(x, SPLIT, 5, 0, 7);
        refused("its own class", x, 0);
        step(x, SPLIT, 5, 1, 5);
        x.change(0);
        names(x, 0, 1, 5);
        Expect.equal("it is owning", x.field(0, 1, 1), 2);
        Expect.equal("its class", x.field(0, 1, 2), 1);
        Expect.equal("its class", x.field(0, 1, 3), 1);
    }

    private static void splitOfEachRecord() {
        Expect.sentence("they become the fields of a new record of class b for each record, to which a refers");
        MigrantHeap none = splitting();
        none.make(1, 0);
        Expect.change(none, 0, SPLIT, 5, 1, 5);
        Expect.equal("for no record none", none.about(1, 1), 1);
        MigrantHeap x = splitting();
        for (int i = 0; i < 3; i++) {
            x.make(0, i);
            x.set(i, 0, i);
            x.set(i, 2, -i);
        }
        Expect.change(x, 0, REFERENCE, 7, 0);
        x.link(0, 7, 1);
        x.drop(1);
        x.make(0, 6);
        x.drop(6);
        Expect.change(x, 0, SPLIT, 5, 1, 5);
        Expect.equal("for each, though a root leads to three alone", x.about(1, 1), 4);
        x.follow(0, 7, 1);
        for (int i = 0; i < 3; i++) {
            x.follow(i, 5, 5);
            Expect.equal("the number 0 of record " + i, x.get(5, 0), i);
            Expect.equal("the number 2 of record " + i, x.get(5, 2), -i);
        }
    }

    private static void splitOfNumbersOnly() {
        Expect.sentence("They must be numbers of F");
        MigrantHeap x = splitting();
        step(x, DROP, 2);
        step(x, SPLIT, 5, 1, 5);
        refused("one that went", x, 1);
        step(x, NAME, 2, 3);
        step(x, SPLIT, 5, 1, 5);
        refused("one that was renamed", x, 1);
        step(x, DROP, 2);
        step(x, REFERENCE, 2, 0);
        step(x, SPLIT, 5, 1, 5);
        refused("a reference", x, 2);
        step(x, SPLIT, 4, 1, 5);
        step(x, NAME, 4, 2);
        Expect.number(x, 0, 0, 9, 200);
        step(x, SPLIT, 5, 1, 5);
        refused("an owning reference", x, 3);
        step(x, DROP, 2);
        step(x, NAME, 1, 2);
        step(x, SPLIT, 5, 1, 5);
        Expect.equal("one that has the name now", x.change(0), 2);
    }

    private static void splitOfJustThose() {
        Expect.sentence("just those that the newest version of b has");
        MigrantHeap x = splitting();
        step(x, SPLIT, 5, 1, 1);
        refused("one too few", x, 0);
        step(x, SPLIT, 5, 1, 7);
        refused("one too many", x, 0);
        step(x, SPLIT, 5, 1, 3);
        refused("another", x, 0);
        step(x, SPLIT, 5, 2, 1);
        refused("a class without fields", x, 0);
        step(x, SPLIT, 5, 1, 1023);
        refused("all names", x, 0);
        Expect.change(x, 1, DROP, 2);
        step(x, SPLIT, 5, 1, 5);
        refused("those of the version before", x, 0);
        step(x, SPLIT, 5, 1, 1);
        Expect.equal("those of the newest", x.change(0), 2);
    }

    private static void splitToNoReferences() {
        Expect.sentence("the newest version of b has, which has no references");
        MigrantHeap x = splitting();
        Expect.change(x, 1, REFERENCE, 7, 2);
        step(x, SPLIT, 5, 1, 5);
        refused("a reference that is not named", x, 0);
        step(x, SPLIT, 5, 1, 133);
        refused("a reference that is named", x, 0);
        Expect.change(x, 0, REFERENCE, 7, 2);
        step(x, SPLIT, 5, 1, 133);
        refused("a reference that is in both", x, 0);
        Expect.change(x, 1, DROP, 7);
        step(x, SPLIT, 5, 1, 5);
        Expect.equal("a class that had one", x.change(0), 3);
        Expect.addNumbers(x, 2, -9, 9, 1, 5);
        step(x, SPLIT, 6, 2, 34);
        refused("an owning one that would go", x, 0);
        MigrantHeap y = splitting();
        Expect.addNumbers(y, 2, -9, 9, 2);
        Expect.change(y, 1, SPLIT, 2, 2, 4);
        step(y, SPLIT, 5, 1, 5);
        refused("an owning one in the other class", y, 0);
        MigrantHeap alone = Expect.heap(3);
        Expect.change(alone, 1, REFERENCE, 0, 2);
        Expect.addNumber(alone, 0, 0, 2, 2, 2);
        step(alone, SPLIT, 5, 1, 1);
        refused("a reference alone, to the class of a number that would go", alone, 0);
    }

    private static void splitIntoWiderRanges() {
        Expect.sentence("each with a range there that has its own in it");
        MigrantHeap x = splitting();
        x.make(0, 0);
        x.set(0, 2, -9);
        step(x, RANGE, 2, -10, 9, 0);
        step(x, SPLIT, 5, 1, 5);
        refused("one too low", x, 1);
        step(x, RANGE, 0, -9, 10, 0);
        step(x, SPLIT, 5, 1, 5);
        refused("one too high", x, 1);
        step(x, RANGE, 0, -10, 10, 0);
        step(x, RANGE, 0, 1, 1, 1);
        step(x, SPLIT, 5, 1, 5);
        Expect.equal("one cut within, and the same range", x.change(0), 2);
        x.follow(0, 5, 1);
        Expect.equal("the value that was cut", x.get(1, 0), 1);
        Expect.equal("the value at the end", x.get(1, 2), -9);
        x.set(1, 0, -9);
        Expect.equal("with the range there", x.get(1, 0), -9);
        Expect.equal("which stays", x.field(1, 1, 2), -9);
    }

    private static void splitNameNotLeft() {
        Expect.sentence("no field a may be left (one that goes may have been named so)");
        MigrantHeap x = splitting();
        x.make(0, 0);
        x.set(0, 2, 6);
        step(x, SPLIT, 1, 1, 5);
        refused("one that is left", x, 0);
        step(x, NAME, 1, 9);
        step(x, SPLIT, 9, 1, 5);
        refused("one that is left, renamed", x, 1);
        step(x, SPLIT, 2, 1, 5);
        Expect.equal("one that goes", x.change(0), 2);
        names(x, 0, 1, 2);
        x.follow(0, 2, 1);
        Expect.equal("its value went", x.get(1, 2), 6);
    }

    private static void splitOfSix() {
        Expect.sentence("no field a may be left .., nor six");
        MigrantHeap x = numbers(0, 1, 2, 3, 4, 5);
        Expect.addNumbers(x, 1, -9, 9, 3);
        Expect.addNumbers(x, 2, -9, 9, 0, 1, 2, 3, 4, 5);
        x.make(0, 0);
        x.set(0, 3, 7);
        x.set(0, 5, 8);
        Expect.equal("one of six", Expect.change(x, 0, SPLIT, 9, 1, 8), 2);
        names(x, 0, 0, 1, 2, 4, 5, 9);
        Expect.equal("a field behind it", x.get(0, 5), 8);
        x.follow(0, 9, 1);
        Expect.equal("the one", x.get(1, 3), 7);
        x.drop(1);
        Expect.change(x, 0, JOIN, 9);
        Expect.equal("six of six", Expect.change(x, 0, SPLIT, 0, 2, 63), 4);
        names(x, 0, 0);
        x.follow(0, 0, 1);
        Expect.equal("the fourth of them", x.get(1, 3), 7);
    }

    private static void splitToAtMost24() {
        Expect.sentence("with as many more records as the class has there must not be more than 24");
        MigrantHeap x = splitting();
        for (int i = 0; i < 12; i++) {
            x.make(0, i % 8);
        }
        x.make(2, 0);
        step(x, SPLIT, 5, 1, 5);
        refused("13 and 12", x, 0);
        x.make(2, 0);
        step(x, SPLIT, 5, 1, 5);
        refused("14 and 12", x, 0);
        MigrantHeap y = splitting();
        for (int i = 0; i < 12; i++) {
            y.make(0, i % 8);
        }
        Expect.equal("12 and 12", Expect.change(y, 0, SPLIT, 5, 1, 5), 2);
        Expect.equal("records", y.about(0, 1) + y.about(1, 1), 24);
        MigrantHeap full = splitting();
        for (int i = 0; i < 24; i++) {
            full.make(2, 0);
        }
        Expect.equal("24 and none", Expect.change(full, 0, SPLIT, 5, 1, 5), 2);
        MigrantHeap all = splitting();
        for (int i = 0; i < 24; i++) {
            all.make(i < 23 ? 2 : 0, 0);
        }
        step(all, SPLIT, 5, 1, 5);
        refused("24 and one", all, 0);
    }

    private static void splitCountsStepsBefore() {
        Expect.sentence("there must not be more than 24 (those of a step before count)");
        for (int more = 0; more < 2; more++) {
            MigrantHeap x = splitting();
            Expect.addNumbers(x, 2, -9, 9, 1);
            for (int i = 0; i < 8; i++) {
                x.make(0, i);
            }
            for (int i = 0; i < more; i++) {
                x.make(2, 0);
            }
            step(x, SPLIT, 5, 1, 5);
            step(x, SPLIT, 6, 2, 2);
            if (more == 0) {
                Expect.equal("8, 8 and 8", x.change(0), 2);
                Expect.equal("records", x.about(0, 1) + x.about(1, 1) + x.about(2, 1), 24);
            } else {
                refused("9, 8 and 8", x, 1);
                Expect.equal("none is made", x.about(0, 1) + x.about(1, 1) + x.about(2, 1), 9);
            }
        }
    }

    private static void splitCountsNoOtherSteps() {
        Expect.sentence("with as many more records as the class has there must not be more than 24");
        for (int more = 0; more < 2; more++) {
            MigrantHeap x = splitting();
            for (int i = 0; i < 12; i++) {
                x.make(0, 0);
            }
            for (int i = 0; i < more; i++) {
                x.make(2, 1);
            }
            step(x, REFERENCE, 6, 1);
            step(x, DROP, 6);
            step(x, NAME, 1, 7);
            step(x, RANGE, 0, -5, 5, 1);
            Expect.number(x, 8, -9, 9, 200);
            step(x, SPLIT, 5, 1, 5);
            if (more == 0) {
                Expect.equal("12 and 12, behind five others", x.change(0), 2);
            } else {
                refused("13 and 12, behind five others", x, 5);
            }
        }
    }

    private static void splitWhereAJoinMadeRoom() {
        Expect.sentence("the records it referred to are there no more");
        for (int more = 0; more < 2; more++) {
            MigrantHeap x = splitting();
            for (int i = 0; i < 8; i++) {
                x.make(0, 0);
            }
            Expect.addNumbers(x, 2, -9, 9, 1);
            Expect.change(x, 0, SPLIT, 5, 1, 5);
            for (int i = 0; i < more; i++) {
                x.make(2, 1);
            }
            step(x, JOIN, 5);
            step(x, SPLIT, 5, 1, 5);
            step(x, SPLIT, 6, 2, 2);
            if (more == 0) {
                Expect.equal("8, none, 8 and 8", x.change(0), 3);
                Expect.equal("records", x.about(0, 1) + x.about(1, 1) + x.about(2, 1), 24);
            } else {
                refused("9, none, 8 and 8", x, 2);
            }
        }
    }

    private static void splitIsKeptAsTheNewest() {
        Expect.sentence("A new record for a SPLIT is kept as the newest version of its class then.");
        MigrantHeap x = splitting();
        x.make(0, 0);
        x.make(1, 2);
        Expect.change(x, 1, RANGE, 0, -20, 20, 0);
        Expect.change(x, 0, SPLIT, 5, 1, 5);
        Expect.equal("the record itself is not touched", x.versionOf(0), 1);
        Expect.equal("another of the class neither", x.versionOf(2), 1);
        x.follow(0, 5, 1);
        Expect.equal("the new one", x.versionOf(1), 2);
        Expect.change(x, 1, RANGE, 0, -30, 30, 0);
        Expect.equal("the version of then", x.versionOf(1), 2);
    }

    private static void joinOfTheOwningReference() {
        Expect.sentence("JOIN a: the owning reference a goes");
        MigrantHeap x = split();
        Expect.change(x, 0, REFERENCE, 7, 1);
        step(x, JOIN, 7);
        refused("a reference that is not owning", x, 0);
        x.make(1, 1);
        x.link(0, 7, 1);
        x.drop(1);
        step(x, JOIN, 7);
        refused("one that is not owning, to a record that no root holds", x, 0);
        step(x, JOIN, 1);
        refused("a number", x, 0);
        step(x, JOIN, 9);
        refused("no field", x, 0);
        step(x, JOIN, 5);
        Expect.equal("the owning one", x.change(0), 4);
        Expect.noElement("it is there no more", () -> x.follow(0, 5, 1));
        step(x, JOIN, 5);
        refused("once more", x, 0);
    }

    private static void joinComesLastInOrder() {
        Expect.sentence("the fields of the newest version of its class .. come last, in their order, with their values");
        MigrantHeap x = split();
        x.make(0, 1);
        Expect.addNumber(x, 1, 8, 0, 9, 6);
        x.follow(0, 5, 2);
        Expect.change(x, 1, RANGE, 2, -20, 4, 1);
        x.set(2, 8, 9);
        x.drop(2);
        Expect.change(x, 0, JOIN, 5);
        names(x, 0, 1, 2, 0, 8);
        Expect.equal("its range of then", x.field(0, 1, 2), -20);
        Expect.equal("a value that was cut", x.get(0, 2), 4);
        Expect.equal("a value that stayed", x.get(0, 0), 3);
        Expect.equal("a value that was set", x.get(0, 8), 9);
        Expect.equal("one that it always had", x.get(0, 1), 4);
        Expect.equal("the values of another record", x.get(1, 8), 6);
    }

    private static void joinOfNoFields() {
        Expect.sentence("the fields of the newest version of its class, which must have no references, come last");
        MigrantHeap x = split();
        step(x, DROP, 0);
        step(x, DROP, 2);
        x.change(1);
        Expect.equal("of a class without fields", Expect.change(x, 0, JOIN, 5), 3);
        names(x, 0, 1);
        Expect.equal("its records are there no more", x.about(1, 1), 0);
        Expect.equal("what is left", x.get(0, 1), 4);
    }

    private static void joinOfNoReferences() {
        Expect.sentence("JOIN a: .. its class, which must have no references");
        MigrantHeap x = split();
        Expect.change(x, 1, REFERENCE, 7, 0);
        step(x, JOIN, 5);
        refused("with a reference", x, 0);
        Expect.change(x, 1, DROP, 7);
        Expect.addNumbers(x, 2, -9, 9, 0);
        Expect.change(x, 1, SPLIT, 7, 2, 1);
        step(x, JOIN, 5);
        refused("with an owning one", x, 0);
        Expect.change(x, 1, JOIN, 7);
        Expect.equal("with none any more", Expect.change(x, 0, JOIN, 5), 3);
        Expect.equal("the value after all that", x.get(0, 0), 3);
        MigrantHeap y = split();
        step(y, DROP, 0);
        step(y, DROP, 2);
        step(y, REFERENCE, 7, 2);
        y.change(1);
        step(y, JOIN, 5);
        refused("with a reference alone", y, 0);
        Expect.addNumber(y, 1, 2, 0, 9, 0);
        step(y, JOIN, 5);
        refused("with a reference as the first", y, 0);
    }

    private static void joinEndsTheRecords() {
        Expect.sentence("the records it referred to are there no more");
        MigrantHeap x = split();
        x.make(0, 1);
        x.drop(1);
        x.make(1, 2);
        Expect.equal("records before", x.about(1, 1), 3);
        Expect.change(x, 0, JOIN, 5);
        Expect.equal("the one that no field referred to", x.about(1, 1), 1);
        Expect.equal("it is what the root held", x.get(2, 0), 0);
        Expect.equal("the owner that no root leads to", x.collect(), 1);
        for (int i = x.about(0, 1) + x.about(1, 1); i < 24; i++) {
            x.make(0, 3);
        }
        Expect.state("they left just so much room", () -> x.make(0, 3));
    }

    private static void joinOfAnOldField() {
        Expect.sentence("It must be an old field (perhaps renamed)");
        MigrantHeap x = splitting();
        x.make(0, 0);
        step(x, SPLIT, 5, 1, 5);
        step(x, JOIN, 5);
        refused("of the same script", x, 1);
        Expect.change(x, 0, SPLIT, 5, 1, 5);
        step(x, JOIN, 5);
        step(x, SPLIT, 5, 1, 5);
        step(x, JOIN, 5);
        refused("of the same script, named as an old one", x, 2);
        step(x, NAME, 5, 6);
        step(x, JOIN, 5);
        refused("by its old name", x, 1);
        step(x, NAME, 5, 6);
        step(x, NAME, 6, 7);
        step(x, JOIN, 7);
        Expect.equal("renamed twice", x.change(0), 3);
        MigrantHeap y = split();
        Expect.change(y, 0, REFERENCE, 7, 0);
        y.follow(0, 5, 1);
        step(y, DROP, 1);
        step(y, JOIN, 5);
        refused("behind one that went, held by a root", y, 1);
        y.drop(1);
        step(y, DROP, 1);
        step(y, JOIN, 5);
        Expect.equal("behind one that went", y.change(0), 4);
        Expect.equal("the joined value", y.get(0, 0), 3);
    }

    private static void joinNamesNotThere() {
        Expect.sentence("none of those names may be there");
        MigrantHeap x = split();
        Expect.number(x, 2, 0, 9, 200);
        step(x, JOIN, 5);
        refused("a number", x, 1);
        step(x, REFERENCE, 0, 0);
        step(x, JOIN, 5);
        refused("a reference", x, 1);
        step(x, NAME, 1, 2);
        step(x, JOIN, 5);
        refused("one that was named so", x, 1);
        Expect.number(x, 2, 0, 9, 200);
        step(x, DROP, 2);
        step(x, JOIN, 5);
        Expect.equal("one that went", x.change(0), 3);
    }

    private static void joinToAtMostSix() {
        Expect.sentence("none of those names may be there, nor more than six fields then");
        MigrantHeap x = split();
        step(x, REFERENCE, 6, 0);
        step(x, REFERENCE, 7, 0);
        step(x, REFERENCE, 8, 0);
        step(x, REFERENCE, 9, 0);
        step(x, JOIN, 5);
        refused("five others and two", x, 4);
        step(x, REFERENCE, 6, 0);
        step(x, REFERENCE, 7, 0);
        step(x, REFERENCE, 8, 0);
        step(x, JOIN, 5);
        Expect.equal("four others and two", x.change(0), 3);
        names(x, 0, 1, 6, 7, 8, 2, 0);
        Expect.equal("the last one", x.get(0, 0), 3);
        MigrantHeap y = numbers(0, 1, 2, 3, 4, 5);
        Expect.addNumbers(y, 1, -9, 9, 5, 4, 3, 2, 1, 0);
        y.make(0, 0);
        for (int name = 0; name < 6; name++) {
            y.set(0, name, 3 + name);
        }
        Expect.change(y, 0, SPLIT, 9, 1, 63);
        step(y, REFERENCE, 8, 0);
        step(y, JOIN, 9);
        refused("one other and six", y, 1);
        Expect.equal("no other and six", Expect.change(y, 0, JOIN, 9), 3);
        names(y, 0, 5, 4, 3, 2, 1, 0);
        for (int name = 0; name < 6; name++) {
            Expect.equal("the number " + name, y.get(0, name), 3 + name);
        }
    }

    private static void joinHeldByNoRoot() {
        Expect.sentence("no root may hold a record to which a refers");
        for (int root = 1; root < 8; root++) {
            MigrantHeap x = split();
            x.follow(0, 5, root);
            step(x, JOIN, 5);
            refused("root " + root, x, 0);
            x.drop(root);
            Expect.equal("none any more", Expect.change(x, 0, JOIN, 5), 3);
        }
        MigrantHeap lost = split();
        lost.follow(0, 5, 0);
        step(lost, JOIN, 5);
        refused("one whose owner no root leads to", lost, 0);
        lost.collect();
        Expect.equal("its owner is there no more", Expect.change(lost, 0, JOIN, 5), 3);
        Expect.equal("so it stays", lost.about(1, 1), 1);
        MigrantHeap two = split();
        Expect.number(two, 0, -9, 9, 200);
        Expect.number(two, 2, -9, 9, 200);
        step(two, SPLIT, 6, 1, 5);
        two.change(0);
        two.follow(0, 6, 1);
        step(two, JOIN, 6);
        refused("the one of two that a root holds", two, 0);
        Expect.equal("the other", Expect.change(two, 0, JOIN, 5), 4);
    }
}
