/** What the tests of the project share: counting what is not as due, and short ways to build scripts. */
final class Expect {
    private static int asked = 0;
    private static int wrong = 0;

    private Expect() {
    }

    static void equal(String what, long got, long due) {
        asked++;
        if (got != due) {
            tell(what + " answered " + got + ", due is " + due);
        }
    }

    static void yes(String what, boolean got) {
        equal(what, got ? 1 : 0, 1);
    }

    static void no(String what, boolean got) {
        equal(what, got ? 1 : 0, 0);
    }

    static void argument(String what, Runnable call) {
        throwing(what, IllegalArgumentException.class, call);
    }

    static void state(String what, Runnable call) {
        throwing(what, IllegalStateException.class, call);
    }

    static void noElement(String what, Runnable call) {
        throwing(what, java.util.NoSuchElementException.class, call);
    }

    static void bounds(String what, Runnable call) {
        throwing(what, IndexOutOfBoundsException.class, call);
    }

    private static void throwing(String what, Class<?> due, Runnable call) {
        asked++;
        Class<?> got = null;
        try {
            call.run();
        } catch (RuntimeException e) {
            got = e.getClass();
        }
        if (got != due) {
            tell(what + " threw " + (got == null ? "nothing" : got.getName()) + ", due is " + due.getName());
        }
    }

    static void tell(String fault) {
        wrong++;
        System.out.println(fault);
    }

    static void end() {
        System.out.println(asked + " answers, " + wrong + " not as due");
        if (wrong != 0) {
            System.exit(1);
        }
    }

    /** A heap with so many classes. */
    static MigrantHeap heap(int classes) {
        MigrantHeap x = new MigrantHeap();
        for (int i = 0; i < classes; i++) {
            x.newClass();
        }
        return x;
    }

    static void words(MigrantHeap x, int... words) {
        for (int w : words) {
            x.word(w);
        }
    }

    /** Puts a NUMBER with its formula behind the steps. */
    static void number(MigrantHeap x, int name, int low, int high, int... words) {
        words(x, words);
        x.step(2, name, low, high, 0);
    }

    /** Gives a class one more number, with a literal as its value. */
    static void addNumber(MigrantHeap x, int c, int name, int low, int high, int value) {
        number(x, name, low, high, 200 + value);
        x.change(c);
    }

    /** Carries one step out as a script. */
    static int change(MigrantHeap x, int c, int kind, int... rest) {
        put(x, kind, rest);
        return x.change(c);
    }

    static void put(MigrantHeap x, int kind, int... rest) {
        int[] all = java.util.Arrays.copyOf(rest, 4);
        x.step(kind, all[0], all[1], all[2], all[3]);
    }

    /** A script that must be refused at a step. */
    static void refused(String what, MigrantHeap x, int c, int at) {
        state(what, () -> x.change(c));
        equal(what + ": fault()", x.fault(), at);
    }
}
