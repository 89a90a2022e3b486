import java.util.function.Consumer;
import java.util.function.Supplier;

/** What the tests of the project share: counting what is not as due, and short ways to build scripts. */
final class Expect {
    private static int asked = 0;
    private static int wrong = 0;
    private static int sentences = 0;
    private static String sentence = "";

    private Expect() {
    }

    /** The words of the document that are tested from here on; they are told with each fault. */
    static void sentence(String words) {
        sentences++;
        sentence = "\"" + words + "\": ";
    }

    static void equal(String what, long got, long due) {
        asked++;
        if (got != due) {
            tell(what + " answered " + got + ", due is " + due);
        }
    }

    static void yes(String what, boolean got) {
        equal(what, got ? 1 : 0, 1);
    }

    static void no(String what, boolean got) {
        equal(what, got ? 1 : 0, 0);
    }

    static void argument(String what, Runnable call) {
        throwing(what, IllegalArgumentException.class, call);
    }

    static void state(String what, Runnable call) {
        throwing(what, IllegalStateException.class, call);
    }

    static void noElement(String what, Runnable call) {
        throwing(what, java.util.NoSuchElementException.class, call);
    }

    static void bounds(String what, Runnable call) {
        throwing(what, IndexOutOfBoundsException.class, call);
    }

    private static void throwing(String what, Class<?> due, Runnable call) {
        asked++;
        Class<?> got = null;
        try {
            call.run();
        } catch (RuntimeException e) {
            got = e.getClass();
        }
        if (got != due) {
            tell(what + " threw " + (got == null ? "nothing" : got.getName()) + ", due is " + due.getName());
        }
    }

    static void tell(String fault) {
        wrong++;
        System.out.println(sentence + fault);
    }

    /**
     * A call that must throw and leave no trace: a heap on which it was tried and another one on which
     * it was not answer the same from then on.
     */
    static void changesNothing(String what, Class<?> due, Supplier<MigrantHeap> build, Consumer<MigrantHeap> call) {
        MigrantHeap tried = build.get();
        throwing(what, due, () -> call.accept(tried));
        alike(what + " changes nothing", tried, build.get());
    }

    /** Both are looked at in all ways, and are of no use then. */
    static void alike(String what, MigrantHeap got, MigrantHeap due) {
        asked++;
        String[] seen = Look.at(got).split(" ");
        String[] looked = Look.at(due).split(" ");
        int at = java.util.Arrays.mismatch(seen, looked);
        if (at >= 0) {
            tell(what + ", but look " + at + " is " + (at < seen.length ? seen[at] : "not there")
                    + ", due is " + (at < looked.length ? looked[at] : "none"));
        }
    }

    static void end() {
        String held = sentences == 0 ? "" : sentences + " sentences, ";
        System.out.println(held + asked + " answers, " + wrong + " not as due");
        if (wrong != 0) {
            System.exit(1);
        }
    }

    /** A heap with so many classes. */
    static MigrantHeap heap(int classes) {
        MigrantHeap x = new MigrantHeap();
        for (int i = 0; i < classes; i++) {
            x.newClass();
        }
        return x;
    }

    static void words(MigrantHeap x, int... words) {
        for (int w : words) {
            x.word(w);
        }
    }

    /** Puts a NUMBER with its formula behind the steps. */
    static void number(MigrantHeap x, int name, int low, int high, int... words) {
        words(x, words);
        x.step(2, name, low, high, 0);
    }

    /** Gives a class numbers of these names, all from low to high, by one change. */
    static void addNumbers(MigrantHeap x, int c, int low, int high, int... names) {
        for (int name : names) {
            words(x, 200 + Math.max(low, Math.min(high, 0)));
            x.step(2, name, low, high, 0);
        }
        x.change(c);
    }

    /** Gives a class one more number, with a literal as its value. */
    static void addNumber(MigrantHeap x, int c, int name, int low, int high, int value) {
        number(x, name, low, high, 200 + value);
        x.change(c);
    }

    /** Carries one step out as a script. */
    static int change(MigrantHeap x, int c, int kind, int... rest) {
        put(x, kind, rest);
        return x.change(c);
    }

    static void put(MigrantHeap x, int kind, int... rest) {
        int[] all = java.util.Arrays.copyOf(rest, 4);
        x.step(kind, all[0], all[1], all[2], all[3]);
    }

    /** A script that must be refused at a step. */
    static void refused(String what, MigrantHeap x, int c, int at) {
        state(what, () -> x.change(c));
        equal(what + ": fault()", x.fault(), at);
    }
}
