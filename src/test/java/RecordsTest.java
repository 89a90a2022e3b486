/** Promises 1 to 9 and 14 to 17: records, roots, and as which version they are kept. */
public final class RecordsTest {
    private static final int NUMBER = 2;
    private static final int REFERENCE = 4;
    private static final int SPLIT = 5;

    private RecordsTest() {
    }

    public static void main(String[] args) {
        promise1NewObject();
        promise2NewClass();
        promise3Make();
        promise3MakeOwned();
        promise3MakeLimit();
        promise4Get();
        promise5Set();
        promise6Link();
        promise6LinkOwned();
        promise7Follow();
        promise8Drop();
        promise9Same();
        promise14VersionOf();
        promise15Touch();
        promise16Sweep();
        promise17Collect();
        promise17CollectByNewestVersion();
        promise17CollectRing();
        Expect.end();
    }

    private static void promise1NewObject() {
        MigrantHeap x = new MigrantHeap();
        Expect.argument("about(0, 0) of a new object", () -> x.about(0, 0));
        Expect.equal("collect() of a new object", x.collect(), 0);
        Expect.equal("fault() of a new object", x.fault(), -1);
        for (int root = 0; root < 8; root++) {
            Expect.no("drop(" + root + ") of a new object", x.drop(root));
        }
        Expect.equal("the first word", x.word(200), 1);
        Expect.equal("the first step", x.step(NUMBER, 0, 0, 0, 0), 1);
        Expect.equal("the first class", x.newClass(), 0);
        Expect.equal("its records", x.about(0, 1), 0);
        Expect.argument("change() of another new object", () -> Expect.heap(1).change(0));
    }

    private static void promise2NewClass() {
        MigrantHeap x = new MigrantHeap();
        for (int c = 0; c < 4; c++) {
            Expect.equal("newClass()", x.newClass(), c);
            Expect.equal("the newest version of a new class", x.about(c, 0), 0);
            Expect.equal("the fields of a new class", x.about(c, 3), 0);
        }
        Expect.state("the fifth newClass()", () -> x.newClass());
        Expect.argument("the fifth class", () -> x.about(4, 0));
    }

    private static void promise3Make() {
        MigrantHeap x = Expect.heap(1);
        Expect.number(x, 0, -5, 5, 203);
        Expect.number(x, 1, 2, 9, 203);
        Expect.number(x, 2, -9, -4, 195);
        Expect.put(x, REFERENCE, 3, 0);
        x.change(0);
        x.make(0, 7);
        Expect.equal("a range with 0", x.get(7, 0), 0);
        Expect.equal("a range above 0", x.get(7, 1), 2);
        Expect.equal("a range below 0", x.get(7, 2), -4);
        x.follow(7, 3, 6);
        Expect.no("a new reference refers to nothing", x.drop(6));
        Expect.equal("kept as the newest version", x.versionOf(7), 1);
        x.make(0, 7);
        Expect.equal("what the root held stays a record", x.about(0, 1), 2);
        Expect.argument("make(1, 0)", () -> x.make(1, 0));
        Expect.argument("make(-1, 0)", () -> x.make(-1, 0));
        Expect.argument("make(0, 8)", () -> x.make(0, 8));
        Expect.argument("make(0, -1)", () -> x.make(0, -1));
        Expect.equal("those that threw made none", x.about(0, 1), 2);
    }

    /** Class 0 owns one of class 1 by its field 5, which took the field 0. */
    private static MigrantHeap owning() {
        MigrantHeap x = Expect.heap(3);
        Expect.addNumber(x, 0, 0, 3, 9, 5);
        Expect.addNumber(x, 1, 0, 3, 9, 5);
        Expect.change(x, 0, SPLIT, 5, 1, 1);
        return x;
    }

    private static void promise3MakeOwned() {
        MigrantHeap x = owning();
        Expect.addNumber(x, 2, 0, 3, 9, 5);
        Expect.change(x, 1, SPLIT, 6, 2, 1);
        x.make(0, 0);
        Expect.equal("records of class 1 with one of class 0", x.about(1, 1), 1);
        Expect.equal("records of class 2 with one of class 1", x.about(2, 1), 1);
        Expect.equal("they are kept as the newest", x.about(1, 2) + x.about(2, 2), 0);
        x.follow(0, 5, 1);
        x.follow(1, 6, 2);
        Expect.equal("a number of the innermost", x.get(2, 0), 3);
        x.make(1, 3);
        Expect.equal("records of class 0 with one of class 1", x.about(0, 1), 1);
        Expect.equal("records of class 2 then", x.about(2, 1), 2);
    }

    private static void promise3MakeLimit() {
        MigrantHeap x = Expect.heap(1);
        for (int i = 0; i < 24; i++) {
            x.make(0, 0);
        }
        Expect.state("the 25th record", () -> x.make(0, 1));
        Expect.argument("an illegal argument goes before", () -> x.make(0, 8));
        Expect.argument("a class that is not there goes before", () -> x.make(1, 0));
        Expect.no("the root of the 25th holds nothing", x.drop(1));
        Expect.equal("collect()", x.collect(), 23);

        MigrantHeap y = owning();
        for (int i = 0; i < 11; i++) {
            y.make(0, 0);
        }
        y.make(1, 0);
        Expect.state("two where one has room", () -> y.make(0, 1));
        Expect.equal("nothing of the two was made", y.about(0, 1) + y.about(1, 1), 23);
        y.make(1, 0);
        Expect.equal("the 24th record", y.about(1, 1), 13);
    }

    private static void promise4Get() {
        MigrantHeap x = Expect.heap(1);
        x.make(0, 0);
        Expect.addNumber(x, 0, 1, -5, 5, 3);
        Expect.change(x, 0, REFERENCE, 2, 0);
        Expect.noElement("get of a root that holds nothing", () -> x.get(1, 1));
        Expect.noElement("get of a field that is not there", () -> x.get(0, 3));
        Expect.noElement("get of a reference", () -> x.get(0, 2));
        Expect.argument("get(8, 1)", () -> x.get(8, 1));
        Expect.argument("get(-1, 1)", () -> x.get(-1, 1));
        Expect.argument("get(0, 10)", () -> x.get(0, 10));
        Expect.argument("get(0, -1)", () -> x.get(0, -1));
        Expect.argument("illegal name goes before no record", () -> x.get(1, 10));
        Expect.equal("what throws touches nothing", x.versionOf(0), 0);
        Expect.equal("get(0, 1)", x.get(0, 1), 3);
        Expect.equal("get touches", x.versionOf(0), 2);
    }

    private static void promise5Set() {
        MigrantHeap x = Expect.heap(1);
        x.make(0, 0);
        x.make(0, 1);
        Expect.addNumber(x, 0, 1, -5, 5, 3);
        Expect.change(x, 0, REFERENCE, 2, 0);
        Expect.state("above the range", () -> x.set(0, 1, 6));
        Expect.state("below the range", () -> x.set(0, 1, -6));
        Expect.noElement("set of a root that holds nothing", () -> x.set(2, 1, 6));
        Expect.noElement("set of a field that is not there", () -> x.set(0, 3, 0));
        Expect.noElement("set of a reference", () -> x.set(0, 2, 0));
        Expect.argument("set(8, 1, 0)", () -> x.set(8, 1, 0));
        Expect.argument("set(-1, 1, 0)", () -> x.set(-1, 1, 0));
        Expect.argument("set(2, 10, 6)", () -> x.set(2, 10, 6));
        Expect.argument("set(2, -1, 6)", () -> x.set(2, -1, 6));
        Expect.equal("what throws touches nothing", x.versionOf(0), 0);
        x.set(0, 1, 5);
        Expect.equal("set touches", x.versionOf(0), 2);
        Expect.equal("the upper end", x.get(0, 1), 5);
        x.set(0, 1, -5);
        Expect.equal("the lower end", x.get(0, 1), -5);
        Expect.equal("another record stays", x.get(1, 1), 3);
    }

    private static void promise6Link() {
        MigrantHeap x = Expect.heap(2);
        x.make(0, 0);
        x.make(0, 1);
        x.make(1, 2);
        Expect.number(x, 1, 0, 5, 200);
        Expect.put(x, REFERENCE, 2, 0);
        Expect.put(x, REFERENCE, 3, 1);
        x.change(0);
        Expect.state("a record of another class", () -> x.link(0, 2, 2));
        Expect.state("a record of its own class", () -> x.link(0, 3, 1));
        Expect.noElement("link of a number", () -> x.link(0, 1, 1));
        Expect.noElement("link of a field that is not there", () -> x.link(0, 9, 1));
        Expect.noElement("link of a root that holds nothing", () -> x.link(7, 2, 2));
        Expect.argument("link(8, 2, 1)", () -> x.link(8, 2, 1));
        Expect.argument("link(7, 10, 1)", () -> x.link(7, 10, 1));
        Expect.argument("link(7, 2, 8)", () -> x.link(7, 2, 8));
        Expect.argument("link(7, 2, -1)", () -> x.link(7, 2, -1));
        Expect.equal("what throws touches nothing", x.versionOf(0), 0);
        x.link(0, 2, 1);
        Expect.equal("link touches the first", x.versionOf(0), 1);
        Expect.equal("link does not touch the other", x.versionOf(1), 0);
        x.follow(0, 2, 3);
        Expect.yes("it refers to the other", x.same(3, 1));
        x.link(0, 2, 0);
        x.follow(0, 2, 3);
        Expect.yes("it refers to itself", x.same(3, 0));
        x.link(0, 3, 2);
        x.follow(0, 3, 3);
        Expect.yes("it refers to one of another class", x.same(3, 2));
        x.link(0, 3, 7);
        x.follow(0, 3, 3);
        Expect.yes("it refers to nothing", x.same(3, 7));
    }

    private static void promise6LinkOwned() {
        MigrantHeap x = owning();
        Expect.change(x, 2, REFERENCE, 0, 1);
        Expect.change(x, 1, REFERENCE, 7, 1);
        x.make(0, 0);
        x.make(1, 1);
        x.make(2, 2);
        Expect.state("an owning reference", () -> x.link(0, 5, 1));
        Expect.state("an owning reference, and nothing", () -> x.link(0, 5, 7));
        x.follow(0, 5, 3);
        Expect.state("an owned record", () -> x.link(2, 0, 3));
        Expect.state("an owned record, from itself", () -> x.link(3, 7, 3));
        x.link(3, 7, 1);
        x.link(2, 0, 1);
        x.drop(0);
        Expect.state("owned by one that no root leads to", () -> x.link(2, 0, 3));
        Expect.equal("the owner goes", x.collect(), 1);
        x.link(2, 0, 3);
        x.follow(2, 0, 4);
        Expect.yes("a record is not owned when its owner is there no more", x.same(3, 4));
    }

    private static void promise7Follow() {
        MigrantHeap x = Expect.heap(1);
        x.make(0, 0);
        x.make(0, 1);
        Expect.number(x, 1, 0, 5, 200);
        Expect.put(x, REFERENCE, 2, 0);
        x.change(0);
        Expect.noElement("follow of a number", () -> x.follow(0, 1, 2));
        Expect.noElement("follow of a field that is not there", () -> x.follow(0, 3, 2));
        Expect.noElement("follow of a root that holds nothing", () -> x.follow(2, 2, 2));
        Expect.argument("follow(8, 2, 2)", () -> x.follow(8, 2, 2));
        Expect.argument("follow(2, 10, 2)", () -> x.follow(2, 10, 2));
        Expect.argument("follow(2, 2, 8)", () -> x.follow(2, 2, 8));
        Expect.equal("what throws touches nothing", x.versionOf(0), 0);
        x.link(0, 2, 1);
        Expect.change(x, 0, REFERENCE, 3, 0);
        x.follow(0, 2, 4);
        Expect.equal("follow touches the first", x.versionOf(0), 2);
        Expect.equal("follow does not touch what it finds", x.versionOf(4), 0);
        Expect.yes("it is the record", x.same(4, 1));
        x.follow(0, 3, 4);
        Expect.no("nothing is followed too", x.drop(4));
        x.follow(0, 2, 0);
        Expect.yes("into the same root", x.same(0, 1));

        MigrantHeap y = owning();
        y.make(0, 0);
        y.follow(0, 5, 1);
        Expect.equal("an owning reference is followed", y.get(1, 0), 3);
    }

    private static void promise8Drop() {
        MigrantHeap x = Expect.heap(1);
        x.make(0, 0);
        Expect.yes("drop of a record", x.drop(0));
        Expect.no("drop of nothing", x.drop(0));
        Expect.equal("the record is still there", x.about(0, 1), 1);
        Expect.argument("drop(8)", () -> x.drop(8));
        Expect.argument("drop(-1)", () -> x.drop(-1));
    }

    private static void promise9Same() {
        MigrantHeap x = Expect.heap(1);
        Expect.yes("both nothing", x.same(0, 7));
        x.make(0, 0);
        x.make(0, 1);
        Expect.no("two records", x.same(0, 1));
        Expect.yes("one root", x.same(0, 0));
        Expect.no("a record and nothing", x.same(0, 2));
        Expect.no("nothing and a record", x.same(2, 0));
        Expect.argument("same(0, 8)", () -> x.same(0, 8));
        Expect.argument("same(-1, 0)", () -> x.same(-1, 0));
    }

    private static void promise14VersionOf() {
        MigrantHeap x = Expect.heap(1);
        x.make(0, 0);
        Expect.addNumber(x, 0, 1, 0, 5, 3);
        Expect.equal("versionOf(0)", x.versionOf(0), 0);
        Expect.equal("it is not touched", x.versionOf(0), 0);
        x.make(0, 1);
        Expect.equal("versionOf(1)", x.versionOf(1), 1);
        Expect.noElement("versionOf of nothing", () -> x.versionOf(2));
        Expect.argument("versionOf(8)", () -> x.versionOf(8));
        Expect.argument("versionOf(-1)", () -> x.versionOf(-1));
    }

    private static void promise15Touch() {
        MigrantHeap x = Expect.heap(1);
        x.make(0, 0);
        Expect.addNumber(x, 0, 1, 0, 5, 3);
        Expect.addNumber(x, 0, 2, 0, 5, 3);
        Expect.equal("touch(0)", x.touch(0), 2);
        Expect.equal("kept as the newest", x.versionOf(0), 2);
        Expect.equal("touch(0) again", x.touch(0), 0);
        Expect.noElement("touch of nothing", () -> x.touch(1));
        Expect.argument("touch(8)", () -> x.touch(8));
        Expect.argument("touch(-1)", () -> x.touch(-1));
    }

    private static void promise16Sweep() {
        MigrantHeap x = Expect.heap(2);
        x.make(0, 0);
        x.make(0, 0);
        x.make(1, 2);
        Expect.addNumber(x, 0, 1, 0, 5, 3);
        Expect.addNumber(x, 1, 1, 0, 5, 3);
        x.make(0, 1);
        Expect.equal("about(0, 2) before", x.about(0, 2), 2);
        Expect.equal("sweep(0), one of them in no root", x.sweep(0), 2);
        Expect.equal("about(0, 2) after", x.about(0, 2), 0);
        Expect.equal("kept as the newest", x.versionOf(0), 1);
        Expect.equal("sweep(0) again", x.sweep(0), 0);
        Expect.equal("the other class is not touched", x.versionOf(2), 0);
        Expect.argument("sweep(2)", () -> x.sweep(2));
        Expect.argument("sweep(-1)", () -> x.sweep(-1));
    }

    private static void promise17Collect() {
        MigrantHeap x = Expect.heap(1);
        Expect.change(x, 0, REFERENCE, 0, 0);
        x.make(0, 0);
        x.make(0, 1);
        x.make(0, 2);
        x.make(0, 3);
        x.link(0, 0, 1);
        x.link(1, 0, 2);
        x.link(3, 0, 3);
        x.drop(1);
        x.drop(2);
        Expect.equal("all are led to", x.collect(), 0);
        x.drop(3);
        Expect.equal("a ring that no root leads to", x.collect(), 1);
        x.drop(0);
        Expect.equal("the chain", x.collect(), 3);
        Expect.equal("no record is left", x.about(0, 1), 0);

        MigrantHeap y = owning();
        y.make(0, 0);
        Expect.equal("an owned record is led to", y.collect(), 0);
        y.follow(0, 5, 1);
        y.drop(0);
        Expect.equal("the owner alone", y.collect(), 1);
        Expect.equal("the owned one stays", y.about(1, 1), 1);
        y.make(0, 0);
        y.drop(0);
        y.drop(1);
        Expect.equal("the owner with the owned one, and the other", y.collect(), 3);
    }

    private static void promise17CollectByNewestVersion() {
        MigrantHeap x = Expect.heap(2);
        x.make(1, 1);
        Expect.change(x, 0, REFERENCE, 0, 1);
        x.make(0, 0);
        x.link(0, 0, 1);
        x.drop(1);
        Expect.change(x, 0, 1, 0, 4);
        Expect.equal("a renamed reference leads on", x.collect(), 0);
        Expect.change(x, 0, 0, 4);
        Expect.equal("collect touches nothing", x.versionOf(0), 1);
        Expect.equal("a dropped reference leads nowhere", x.collect(), 1);
        Expect.equal("collect touches nothing", x.versionOf(0), 1);
    }

    private static void promise17CollectRing() {
        MigrantHeap x = Expect.heap(1);
        x.step(REFERENCE, 0, 0, 0, 0);
        x.step(REFERENCE, 1, 0, 0, 0);
        x.change(0);
        x.make(0, 0);
        x.make(0, 1);
        x.link(0, 0, 1);
        x.link(0, 1, 0);
        for (int i = 0; i < 22; i++) {
            x.link(1, 1, 0);
            x.make(0, 2);
            x.link(1, 0, 2);
            x.follow(1, 0, 1);
        }
        x.drop(1);
        x.drop(2);
        Expect.equal("24 records in rings and a chain, by one root", x.collect(), 0);
        Expect.state("make then", () -> x.make(0, 1));
        x.link(0, 0, 7);
        Expect.equal("all but the first", x.collect(), 23);
    }
}
