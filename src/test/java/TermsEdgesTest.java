import java.util.NoSuchElementException;
import java.util.function.Consumer;
import java.util.function.IntConsumer;

/** The edges that "What it is" and "Terms" name, apart from those of single steps and formulas. */
public final class TermsEdgesTest {
    private static final int DROP = 0;
    private static final int NAME = 1;
    private static final int NUMBER = 2;
    private static final int RANGE = 3;
    private static final int REFERENCE = 4;
    private static final int SPLIT = 5;
    private static final int JOIN = 6;
    private static final int FARTHEST = 1000000;
    private static final int MIN = Integer.MIN_VALUE;
    private static final int MAX = Integer.MAX_VALUE;

    private TermsEdgesTest() {
    }

    public static void main(String[] args) {
        usedFor512Calls();
        atMostFourClasses();
        atMostTenVersions();
        versionZeroHasNoFields();
        atMostSixFields();
        fieldsInOrder();
        namesFrom0To9();
        namesOfOneVersionDiffer();
        endsOfRanges();
        atMost24Records();
        numbersStayInTheirRanges();
        owningFieldsReferToOne();
        ownedByAnOwningField();
        rootsFrom0To7();
        keptAsTheNewestWhenMadeOrTouched();
        atMostSixSteps();
        stepsActOnWhatWasMadeBefore();
        refusedAtTheFirstStep();
        noSuchClass();
        noSuchRoot();
        noSuchName();
        theExceptionNamedFirst();
        whatThrowsChangesNothing();
        whatIsRefusedChangesNothing();
        Expect.end();
    }

    private static void usedFor512Calls() {
        Expect.sentence("An object is used for at most 512 calls after it has been made");
        MigrantHeap made = new MigrantHeap();
        made.newClass();
        for (int call = 2; call <= 510; call += 2) {
            made.make(0, 0);
            Expect.equal("collect() at call " + (call + 1), made.collect(), call == 2 ? 0 : 1);
        }
        Expect.equal("about(0, 1) at call 512", made.about(0, 1), 1);
        MigrantHeap changed = new MigrantHeap();
        changed.newClass();
        changed.make(0, 0);
        for (int call = 3; call <= 510; call += 3) {
            changed.step(REFERENCE, 0, 0, 0, 0);
            Expect.equal("change(0) at call " + (call + 1), changed.change(0), 1);
            Expect.equal("takeBack(0) at call " + (call + 2), changed.takeBack(0), 0);
        }
        MigrantHeap refused = new MigrantHeap();
        refused.newClass();
        for (int call = 2; call <= 511; call += 2) {
            refused.step(DROP, 9, 0, 0, 0);
            Expect.state("change(0) at call " + (call + 1), () -> refused.change(0));
        }
        MigrantHeap steps = new MigrantHeap();
        for (int call = 1; call <= 512; call++) {
            if (call <= 12) {
                Expect.equal("word(200) at call " + call, steps.word(200), call);
            } else {
                Expect.state("word(200) at call " + call, () -> steps.word(200));
            }
        }
    }

    private static void atMostFourClasses() {
        Expect.sentence("CLASSES are numbered 0, 1, .. as they are made, at most 4.");
        MigrantHeap x = new MigrantHeap();
        for (int c = 0; c < 4; c++) {
            int next = c;
            Expect.argument("class " + c + " before it is made", () -> x.about(next, 0));
            Expect.equal("newClass()", x.newClass(), c);
            Expect.equal("about(" + c + ", 0)", x.about(c, 0), 0);
        }
        Expect.state("a fifth class", x::newClass);
        Expect.argument("class 4", () -> x.about(4, 0));
    }

    private static void atMostTenVersions() {
        Expect.sentence("Each has VERSIONS 0, 1, .., at most ten, the last one being the NEWEST");
        MigrantHeap x = Expect.heap(2);
        for (int version = 1; version <= 9; version++) {
            Expect.equal("change(0)", renameOrBegin(x, 0, version), version);
            Expect.equal("the newest", x.about(0, 0), version);
        }
        x.step(NAME, 8, 9, 0, 0);
        Expect.state("an eleventh version", () -> x.change(0));
        Expect.equal("the newest is still", x.about(0, 0), 9);
        Expect.equal("its field is still", x.field(0, 0, 0), 8);
        Expect.equal("another class has its own", renameOrBegin(x, 1, 1), 1);
    }

    /** Version 1 has a reference 0, each one after it the same by the next name. */
    private static int renameOrBegin(MigrantHeap x, int c, int version) {
        if (version == 1) {
            return Expect.change(x, c, REFERENCE, 0, c);
        }
        return Expect.change(x, c, NAME, version - 2, version - 1);
    }

    private static void versionZeroHasNoFields() {
        Expect.sentence("0 has no fields");
        MigrantHeap x = Expect.heap(4);
        for (int c = 0; c < 4; c++) {
            int of = c;
            Expect.equal("fields of class " + c, x.about(c, 3), 0);
            Expect.bounds("field 0 of class " + c, () -> x.field(of, 0, 0));
            x.make(c, c);
            for (int name = 0; name < 10; name++) {
                int asked = name;
                Expect.noElement("get(" + c + ", " + name + ")", () -> x.get(of, asked));
                Expect.noElement("follow(" + c + ", " + name + ", 7)", () -> x.follow(of, asked, 7));
            }
        }
    }

    private static void atMostSixFields() {
        Expect.sentence("A version has at most 6 FIELDS in order");
        MigrantHeap x = Expect.heap(2);
        Expect.addNumbers(x, 0, 0, 9, 0, 1, 2, 3, 4, 5);
        Expect.equal("six fields", x.about(0, 3), 6);
        Expect.number(x, 6, 0, 9, 200);
        Expect.refused("a seventh, a NUMBER", x, 0, 0);
        x.step(REFERENCE, 6, 0, 0, 0);
        Expect.refused("a seventh, a REFERENCE", x, 0, 0);
        x.step(DROP, 0, 0, 0, 0);
        x.step(REFERENCE, 6, 0, 0, 0);
        Expect.equal("one for one that went", x.change(0), 2);
        Expect.equal("six again", x.about(0, 3), 6);
        Expect.addNumbers(x, 1, 0, 9, 1);
        Expect.equal("a SPLIT of one of six", Expect.change(x, 0, SPLIT, 1, 1, 2), 3);
        Expect.equal("six again", x.about(0, 3), 6);
        Expect.equal("a JOIN of one into five", Expect.change(x, 0, JOIN, 1), 4);
        Expect.equal("six again", x.about(0, 3), 6);
        Expect.change(x, 0, SPLIT, 1, 1, 2);
        Expect.addNumbers(x, 1, 0, 9, 9);
        x.step(JOIN, 1, 0, 0, 0);
        Expect.refused("a JOIN of two into five", x, 0, 0);
    }

    private static void fieldsInOrder() {
        Expect.sentence("A version has at most 6 FIELDS in order");
        MigrantHeap x = Expect.heap(2);
        Expect.addNumbers(x, 0, 0, 9, 7, 3, 9);
        x.step(REFERENCE, 1, 1, 0, 0);
        x.step(NAME, 3, 8, 0, 0);
        x.step(RANGE, 7, 0, 5, 1);
        x.step(DROP, 9, 0, 0, 0);
        Expect.number(x, 0, 0, 9, 200);
        x.change(0);
        int[] names = {7, 8, 1, 0};
        Expect.equal("fields", x.about(0, 3), names.length);
        for (int i = 0; i < names.length; i++) {
            Expect.equal("the name of field " + i, x.field(0, i, 0), names[i]);
        }
    }

    private static void namesFrom0To9() {
        Expect.sentence("each with a NAME 0 .. 9");
        MigrantHeap x = Expect.heap(1);
        Expect.addNumber(x, 0, 0, 0, 9, 1);
        Expect.addNumber(x, 0, 9, 0, 9, 2);
        x.make(0, 0);
        x.set(0, 0, 4);
        x.set(0, 9, 5);
        Expect.equal("the field 0", x.get(0, 0), 4);
        Expect.equal("the field 9", x.get(0, 9), 5);
        Expect.argument("a step for a name 10", () -> x.step(REFERENCE, 10, 0, 0, 0));
        Expect.argument("a step for a name -1", () -> x.step(REFERENCE, -1, 0, 0, 0));
    }

    private static void namesOfOneVersionDiffer() {
        Expect.sentence("each with a NAME 0 .. 9 that no other one of it has");
        MigrantHeap x = Expect.heap(2);
        Expect.addNumbers(x, 1, 0, 9, 1);
        Expect.addNumbers(x, 0, 0, 9, 0, 1);
        x.step(NAME, 1, 0, 0, 0);
        Expect.refused("NAME", x, 0, 0);
        Expect.number(x, 1, 0, 9, 200);
        Expect.refused("NUMBER", x, 0, 0);
        x.step(REFERENCE, 1, 0, 0, 0);
        Expect.refused("REFERENCE", x, 0, 0);
        x.step(SPLIT, 0, 1, 2, 0);
        Expect.refused("SPLIT", x, 0, 0);
        Expect.change(x, 0, SPLIT, 5, 1, 2);
        Expect.change(x, 0, REFERENCE, 1, 0);
        x.step(JOIN, 5, 0, 0, 0);
        Expect.refused("JOIN", x, 0, 0);
        Expect.equal("another class may have it", x.field(1, 0, 0), 1);
    }

    private static void endsOfRanges() {
        Expect.sentence("Numbers at the ends of ranges are -1000000 .. 1000000.");
        MigrantHeap x = Expect.heap(1);
        for (int kind : new int[] {NUMBER, RANGE}) {
            x.word(200);
            Expect.argument("too low", () -> x.step(kind, 0, -FARTHEST - 1, 0, 0));
            Expect.argument("too high", () -> x.step(kind, 0, 0, FARTHEST + 1, 0));
            Expect.argument("both too high", () -> x.step(kind, 0, FARTHEST + 1, FARTHEST + 1, 0));
            Expect.argument("both too low", () -> x.step(kind, 0, -FARTHEST - 1, -FARTHEST - 1, 0));
            Expect.argument("the lowest int", () -> x.step(kind, 0, MIN, 0, 0));
            Expect.argument("the highest int", () -> x.step(kind, 0, 0, MAX, 0));
            Expect.equal("just so far", x.step(kind, 0, -FARTHEST, FARTHEST, 0), kind - 1);
        }
        Expect.equal("change(0)", x.change(0), 1);
        x.make(0, 0);
        x.set(0, 0, FARTHEST);
        Expect.equal("the highest value", x.get(0, 0), FARTHEST);
        x.set(0, 0, -FARTHEST);
        Expect.equal("the lowest value", x.get(0, 0), -FARTHEST);
        Expect.change(x, 0, RANGE, 0, FARTHEST, FARTHEST, 1);
        Expect.equal("the highest range", x.get(0, 0), FARTHEST);
        Expect.change(x, 0, RANGE, 0, -FARTHEST, -FARTHEST, 1);
        Expect.equal("the lowest range", x.get(0, 0), -FARTHEST);
    }

    private static void atMost24Records() {
        Expect.sentence("RECORDS, at most 24");
        MigrantHeap x = Expect.heap(4);
        for (int i = 0; i < 24; i++) {
            x.make(i % 4, i % 8);
        }
        for (int c = 0; c < 4; c++) {
            int of = c;
            Expect.equal("records of class " + c, x.about(c, 1), 6);
            Expect.state("one more of class " + c, () -> x.make(of, 0));
        }
        Expect.equal("those in no root", x.collect(), 16);
        for (int i = 0; i < 16; i++) {
            x.make(3, 7);
        }
        Expect.state("one more", () -> x.make(0, 0));
    }

    private static void numbersStayInTheirRanges() {
        Expect.sentence("have a number of the range");
        MigrantHeap x = Expect.heap(1);
        x.make(0, 0);
        Expect.addNumber(x, 0, 0, 3, 3, 3);
        Expect.equal("a range of one number", x.get(0, 0), 3);
        Expect.state("below it", () -> x.set(0, 0, 2));
        Expect.state("above it", () -> x.set(0, 0, 4));
        x.set(0, 0, 3);
        Expect.change(x, 0, RANGE, 0, 5, 6, 1);
        Expect.equal("a range above its value", x.get(0, 0), 5);
        Expect.change(x, 0, RANGE, 0, -6, -5, 1);
        Expect.equal("a range below its value", x.get(0, 0), -5);
    }

    /** Class 0 owns one of class 1 by its field 5, which took the number 0. */
    private static MigrantHeap owning() {
        MigrantHeap x = Expect.heap(4);
        Expect.addNumbers(x, 0, 0, 9, 0);
        Expect.addNumbers(x, 1, 0, 9, 0);
        x.make(0, 0);
        Expect.change(x, 0, SPLIT, 5, 1, 1);
        return x;
    }

    private static void owningFieldsReferToOne() {
        Expect.sentence("an owning field always refers to one");
        MigrantHeap x = owning();
        x.make(0, 1);
        x.follow(0, 5, 2);
        x.follow(1, 5, 3);
        Expect.equal("the one of a SPLIT", x.get(2, 0), 0);
        Expect.equal("the one of a make()", x.get(3, 0), 0);
        Expect.no("each has its own", x.same(2, 3));
        x.drop(2);
        x.drop(3);
        Expect.equal("collect() leaves them", x.collect(), 0);
        Expect.state("link() to nothing", () -> x.link(0, 5, 7));
        x.make(1, 4);
        Expect.state("link() to another", () -> x.link(0, 5, 4));
        x.step(DROP, 5, 0, 0, 0);
        Expect.refused("DROP", x, 0, 0);
        x.follow(0, 5, 2);
        Expect.yes("it still does", x.drop(2));
    }

    private static void ownedByAnOwningField() {
        Expect.sentence("A record is OWNED if an owning field of some record refers to it");
        MigrantHeap x = owning();
        Expect.change(x, 2, REFERENCE, 3, 1);
        x.make(2, 2);
        x.make(1, 4);
        x.link(2, 3, 4);
        x.follow(2, 3, 3);
        Expect.yes("one to which a reference refers is not owned", x.same(3, 4));
        x.link(2, 3, 4);
        x.follow(0, 5, 3);
        Expect.state("an owned one", () -> x.link(2, 3, 3));
        x.drop(0);
        Expect.state("an owned one, its owner in no root", () -> x.link(2, 3, 3));
        Expect.equal("the owner goes", x.collect(), 1);
        x.link(2, 3, 3);
        x.follow(2, 3, 5);
        Expect.yes("it is owned no more", x.same(3, 5));
    }

    private static void rootsFrom0To7() {
        Expect.sentence("ROOTS are 0 .. 7; each holds a record or nothing, at first nothing.");
        MigrantHeap x = Expect.heap(1);
        for (int root = 0; root < 8; root++) {
            int empty = root;
            Expect.noElement("versionOf(" + root + ")", () -> x.versionOf(empty));
            Expect.no("drop(" + root + ")", x.drop(root));
        }
        for (int root = 0; root < 8; root++) {
            x.make(0, root);
        }
        for (int root = 0; root < 8; root++) {
            Expect.equal("versionOf(" + root + ")", x.versionOf(root), 0);
            Expect.yes("only itself", x.same(root, root));
            Expect.no("not the next", x.same(root, (root + 1) % 8));
        }
        Expect.argument("root 8", () -> x.drop(8));
        Expect.argument("root -1", () -> x.drop(-1));
        Expect.equal("all are led to", x.collect(), 0);
    }

    private static void keptAsTheNewestWhenMadeOrTouched() {
        Expect.sentence("A record is KEPT AS a version of its class: the one that is newest when it is made, "
                + "or when it is TOUCHED later.");
        MigrantHeap x = Expect.heap(1);
        x.make(0, 0);
        x.make(0, 1);
        Expect.change(x, 0, REFERENCE, 0, 0);
        x.make(0, 2);
        Expect.change(x, 0, NAME, 0, 1);
        x.touch(1);
        Expect.change(x, 0, NAME, 1, 2);
        Expect.equal("made as 0", x.versionOf(0), 0);
        Expect.equal("touched as 2", x.versionOf(1), 2);
        Expect.equal("made as 1", x.versionOf(2), 1);
    }

    private static void atMostSixSteps() {
        Expect.sentence("A SCRIPT is a row of at most 6 STEPS");
        MigrantHeap x = Expect.heap(1);
        for (int i = 0; i < 6; i++) {
            Expect.equal("a step", x.step(REFERENCE, i, 0, 0, 0), i + 1);
        }
        Expect.state("a seventh", () -> x.step(REFERENCE, 6, 0, 0, 0));
        Expect.equal("change(0)", x.change(0), 1);
        Expect.equal("all six are done", x.about(0, 3), 6);
        for (int i = 0; i < 6; i++) {
            Expect.equal("in their order", x.field(0, i, 0), i);
        }
    }

    private static void stepsActOnWhatWasMadeBefore() {
        Expect.sentence("all of them act on what the steps before made, "
                + "values of NUMBER aside, which are of the old fields");
        MigrantHeap x = Expect.heap(1);
        Expect.addNumbers(x, 0, 0, 9, 0);
        x.make(0, 0);
        x.set(0, 0, 8);
        x.step(NAME, 0, 1, 0, 0);
        x.step(RANGE, 1, 0, 4, 1);
        x.step(RANGE, 1, 0, 6, 0);
        Expect.number(x, 0, 0, 9, 0);
        x.step(RANGE, 0, 0, 7, 1);
        x.step(NAME, 0, 2, 0, 0);
        Expect.equal("change(0)", x.change(0), 1 + 1);
        Expect.equal("the named one, cut to the first range", x.get(0, 1), 4);
        Expect.equal("the new one, of the old value, cut itself", x.get(0, 2), 7);
        Expect.noElement("the old name", () -> x.get(0, 0));
    }

    private static void refusedAtTheFirstStep() {
        Expect.sentence("It is REFUSED at the first step that can't be done");
        for (int at = 0; at < 6; at++) {
            MigrantHeap x = Expect.heap(1);
            x.make(0, 0);
            for (int i = 0; i < 6; i++) {
                x.step(i < at ? REFERENCE : DROP, i < at ? i : 9, 0, 0, 0);
            }
            Expect.refused("at step " + at, x, 0, at);
            Expect.equal("nothing is done", x.about(0, 0) + x.about(0, 3), 0);
        }
    }

    private static void noSuch(int[] wrong, IntConsumer... calls) {
        for (int i = 0; i < calls.length; i++) {
            IntConsumer call = calls[i];
            for (int argument : wrong) {
                Expect.argument("call " + i + " with " + argument, () -> call.accept(argument));
            }
        }
    }

    private static void noSuchClass() {
        Expect.sentence("In all calls, illegal argument: there is no such class");
        MigrantHeap none = new MigrantHeap();
        MigrantHeap two = Expect.heap(2);
        MigrantHeap four = Expect.heap(4);
        noSuch(new int[] {MIN, -1, 0, 4, MAX}, classCalls(none));
        noSuch(new int[] {MIN, -1, 2, MAX}, classCalls(two));
        noSuch(new int[] {MIN, -1, 4, MAX}, classCalls(four));
        Expect.argument("step REFERENCE to it waits for nothing", () -> two.change(0));
    }

    private static IntConsumer[] classCalls(MigrantHeap x) {
        return new IntConsumer[] {
            c -> x.make(c, 0), c -> x.change(c), c -> x.takeBack(c), c -> x.sweep(c), c -> x.about(c, 0),
            c -> x.field(c, 0, 0), c -> x.step(REFERENCE, 0, c, 0, 0), c -> x.step(SPLIT, 0, c, 1, 0),
        };
    }

    private static void noSuchRoot() {
        Expect.sentence("In all calls, illegal argument: there is no such class, root");
        MigrantHeap x = rich();
        noSuch(new int[] {MIN, -1, 8, MAX},
                r -> x.make(0, r), r -> x.get(r, 1), r -> x.set(r, 1, 0), r -> x.link(r, 2, 0),
                r -> x.link(0, 2, r), r -> x.follow(r, 2, 0), r -> x.follow(0, 2, r), r -> x.drop(r),
                r -> x.same(r, 0), r -> x.same(0, r), r -> x.versionOf(r), r -> x.touch(r));
        Expect.alike("none of them does anything", x, rich());
    }

    private static void noSuchName() {
        Expect.sentence("In all calls, illegal argument: there is no such class, root, or name.");
        MigrantHeap x = rich();
        noSuch(new int[] {MIN, -1, 10, MAX},
                n -> x.get(0, n), n -> x.set(0, n, 0), n -> x.link(0, n, 0), n -> x.follow(0, n, 0),
                n -> x.step(DROP, n, 0, 0, 0), n -> x.step(NAME, n, 0, 0, 0), n -> x.step(NAME, 0, n, 0, 0),
                n -> x.step(NUMBER, n, 0, 9, 0), n -> x.step(RANGE, n, 0, 9, 0),
                n -> x.step(REFERENCE, n, 0, 0, 0), n -> x.step(SPLIT, n, 1, 1, 0), n -> x.step(JOIN, n, 0, 0, 0));
        Expect.alike("none of them does anything", x, rich());
    }

    /**
     * Some of everything: class 0 has a number 1, references 2 and 3, and owns one of class 1 by 5; of
     * class 2 root 2 holds one, of class 1 root 1 the owned and root 3 another one; roots 5 to 7 hold
     * nothing. The records in roots 0, 2 and 4 are not kept as the newest versions, whose changes
     * could be taken back. A step and a word wait.
     */
    private static MigrantHeap rich() {
        MigrantHeap x = settled();
        x.step(REFERENCE, 8, 1, 0, 0);
        x.word(207);
        return x;
    }

    private static MigrantHeap settled() {
        MigrantHeap x = Expect.heap(4);
        Expect.addNumbers(x, 1, 0, 9, 0);
        Expect.number(x, 0, 0, 9, 203);
        Expect.number(x, 1, -5, 5, 200);
        Expect.put(x, REFERENCE, 2, 0);
        Expect.put(x, REFERENCE, 3, 2);
        x.change(0);
        Expect.change(x, 2, REFERENCE, 0, 1);
        x.make(0, 0);
        x.make(0, 4);
        x.make(2, 2);
        x.make(1, 3);
        x.set(0, 1, 4);
        x.link(0, 2, 4);
        x.link(0, 3, 2);
        x.link(2, 0, 3);
        Expect.change(x, 0, SPLIT, 5, 1, 1);
        x.follow(0, 5, 1);
        Expect.change(x, 0, RANGE, 1, -5, 3, 1);
        Expect.change(x, 2, REFERENCE, 4, 1);
        Expect.change(x, 3, REFERENCE, 0, 3);
        return x;
    }

    private static void theExceptionNamedFirst() {
        Expect.sentence("Of several exceptions the one named first is thrown");
        MigrantHeap x = rich();
        Expect.argument("get: no name, no record", () -> x.get(7, 10));
        Expect.argument("set: no name, no record, no value", () -> x.set(7, 10, 99));
        Expect.argument("set: no name, no value", () -> x.set(0, -1, 99));
        Expect.noElement("set: no record, no value", () -> x.set(7, 1, 99));
        Expect.noElement("set: no number, no value", () -> x.set(0, 5, 99));
        Expect.argument("link: no other root, no record", () -> x.link(7, 2, 8));
        Expect.argument("link: no other root, owning", () -> x.link(0, 5, 8));
        Expect.argument("link: no other root, no reference", () -> x.link(0, 1, -1));
        Expect.noElement("link: no record, another class", () -> x.link(7, 2, 2));
        Expect.noElement("link: no reference, an owned record", () -> x.link(0, 1, 1));
        Expect.argument("follow: no root to, no record", () -> x.follow(7, 2, 8));
        Expect.argument("follow: no root to, no reference", () -> x.follow(0, 1, -1));
        Expect.argument("field: nothing told, no field", () -> x.field(0, 6, 4));
        Expect.argument("field: no class, no field", () -> x.field(4, 6, 0));
        Expect.argument("takeBack: no class", () -> x.takeBack(4));
        Expect.alike("none of them does anything", x, rich());
        MigrantHeap full = Expect.heap(4);
        for (int i = 0; i < 24; i++) {
            full.make(0, 0);
        }
        Expect.argument("make: no class, no room", () -> full.make(4, 0));
        Expect.argument("make: no root, no room", () -> full.make(0, 8));
        for (int i = 0; i < 12; i++) {
            full.word(200);
        }
        Expect.argument("word: none, and twelve wait", () -> full.word(99));
        for (int i = 0; i < 6; i++) {
            full.step(DROP, 0, 0, 0, 0);
        }
        Expect.argument("step: no kind, and six wait", () -> full.step(7, 0, 0, 0, 0));
        Expect.argument("step: no formula, and six wait", () -> full.step(NUMBER, 0, 0, 0, 0));
        Expect.argument("change: no class, and it would be refused", () -> full.change(4));
    }

    private static void state(String what, Consumer<MigrantHeap> call) {
        Expect.changesNothing(what, IllegalStateException.class, TermsEdgesTest::rich, call);
    }

    private static void element(String what, Consumer<MigrantHeap> call) {
        Expect.changesNothing(what, NoSuchElementException.class, TermsEdgesTest::rich, call);
    }

    private static void argument(String what, Consumer<MigrantHeap> call) {
        Expect.changesNothing(what, IllegalArgumentException.class, TermsEdgesTest::rich, call);
    }

    private static void whatThrowsChangesNothing() {
        Expect.sentence("a call that throws changes nothing but what is said (it touches nothing, too)");
        Expect.alike("one heap is as another", rich(), rich());
        state("newClass()", x -> x.newClass());
        argument("make(4, 0)", x -> x.make(4, 0));
        argument("make(0, 8)", x -> x.make(0, 8));
        argument("get(0, 10)", x -> x.get(0, 10));
        element("get(7, 1)", x -> x.get(7, 1));
        element("get(0, 2) of a reference", x -> x.get(0, 2));
        element("get(0, 9) of no field", x -> x.get(0, 9));
        argument("set(0, 10, 0)", x -> x.set(0, 10, 0));
        element("set(7, 1, 0)", x -> x.set(7, 1, 0));
        element("set(0, 2, 0) of a reference", x -> x.set(0, 2, 0));
        state("set(0, 1, 4) above the range", x -> x.set(0, 1, 4));
        state("set(0, 1, -6) below the range", x -> x.set(0, 1, -6));
        argument("link(0, 2, 8)", x -> x.link(0, 2, 8));
        element("link(7, 2, 0)", x -> x.link(7, 2, 0));
        element("link(0, 1, 0) of a number", x -> x.link(0, 1, 0));
        state("link(0, 5, 3), owning", x -> x.link(0, 5, 3));
        state("link(2, 0, 1), owned", x -> x.link(2, 0, 1));
        state("link(0, 2, 2), of another class", x -> x.link(0, 2, 2));
        argument("follow(0, 2, 8)", x -> x.follow(0, 2, 8));
        element("follow(7, 2, 0)", x -> x.follow(7, 2, 0));
        element("follow(0, 1, 6) of a number", x -> x.follow(0, 1, 6));
        argument("drop(8)", x -> x.drop(8));
        argument("same(0, 8)", x -> x.same(0, 8));
        argument("word(17)", x -> x.word(17));
        argument("step(RANGE, 1, 5, 4, 1)", x -> x.step(RANGE, 1, 5, 4, 1));
        argument("step(NUMBER, 7, 5, 4, 0)", x -> x.step(NUMBER, 7, 5, 4, 0));
        argument("change(4)", x -> x.change(4));
        argument("takeBack(4)", x -> x.takeBack(4));
        state("takeBack(1)", x -> x.takeBack(1));
        argument("versionOf(8)", x -> x.versionOf(8));
        element("versionOf(7)", x -> x.versionOf(7));
        argument("touch(8)", x -> x.touch(8));
        element("touch(7)", x -> x.touch(7));
        argument("sweep(4)", x -> x.sweep(4));
        argument("about(0, 4)", x -> x.about(0, 4));
        argument("field(0, 0, 4)", x -> x.field(0, 0, 4));
        Expect.changesNothing("field(0, 4, 0)", IndexOutOfBoundsException.class, TermsEdgesTest::rich,
                x -> x.field(0, 4, 0));
        Expect.changesNothing("make(0, 6) without room", IllegalStateException.class, TermsEdgesTest::almostFull,
                x -> x.make(0, 6));
        Expect.changesNothing("step() when six wait", IllegalStateException.class, TermsEdgesTest::manyWait,
                x -> x.step(NUMBER, 0, -100, 100, 0));
        Expect.changesNothing("word() when twelve wait", IllegalStateException.class, TermsEdgesTest::manyWait,
                x -> x.word(201));
    }

    /** 23 records, so that there is no room for one of class 0 with the one that it owns. */
    private static MigrantHeap almostFull() {
        MigrantHeap x = rich();
        for (int i = x.about(0, 1) + x.about(1, 1) + x.about(2, 1); i < 23; i++) {
            x.make(3, 6);
        }
        return x;
    }

    /** Six steps and twelve words wait, which are a formula. */
    private static MigrantHeap manyWait() {
        MigrantHeap x = Expect.heap(4);
        x.make(0, 0);
        for (int i = 0; i < 5; i++) {
            x.step(REFERENCE, i, 0, 0, 0);
        }
        x.step(DROP, 3, 0, 0, 0);
        Expect.words(x, 209, 16, 16, 16, 16, 16, 16, 16, 16, 16, 16, 16);
        return x;
    }

    private static void whatIsRefusedChangesNothing() {
        Expect.sentence("a call that throws changes nothing but what is said");
        int[][] steps = {
            {DROP, 2, 0, 0, 0}, {NAME, 1, 7, 0, 0}, {NUMBER, 7, -9, 99, 0}, {RANGE, 1, 0, 1, 1},
            {REFERENCE, 7, 3, 0, 0}, {SPLIT, 7, 1, 1, 0}, {JOIN, 5, 0, 0, 0},
        };
        for (int[] s : steps) {
            MigrantHeap x = readyFor(s[0]);
            if (s[0] == NUMBER) {
                x.word(207);
            }
            x.step(s[0], s[1], s[2], s[3], s[4]);
            x.step(DROP, 9, 0, 0, 0);
            Expect.refused("a script with a step of kind " + s[0], x, 0, 1);
            MigrantHeap y = readyFor(s[0]);
            settle(x);
            settle(y);
            Expect.alike("it is as if it had not been tried", x, y);
        }
    }

    /** No root holds an owned record; for a SPLIT class 0 has a number 0 once more. */
    private static MigrantHeap readyFor(int kind) {
        MigrantHeap x = settled();
        x.drop(1);
        if (kind == SPLIT) {
            Expect.addNumber(x, 0, 0, 2, 5, 4);
        }
        return x;
    }

    /** A fault of before is told no more. */
    private static void settle(MigrantHeap x) {
        Expect.change(x, 3, NAME, 0, 1);
    }
}
