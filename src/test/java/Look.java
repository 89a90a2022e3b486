import java.util.Set;
import java.util.TreeSet;
import java.util.function.IntSupplier;

/**
 * All that can be asked of a heap, as one text. First what leaves no trace, then what touches, takes
 * back and changes: a heap is of no use behind it.
 *
 * <p>Nothing is promised behind the 512th call, so only what is there is asked for.
 */
final class Look {
    private static final int MOST_CALLS = 420;
    private static final int FARTHEST = 1000000;
    /** References are followed into it, so what it held itself is seen first. */
    private static final int LAST_ROOT = 7;
    private final MigrantHeap x;
    private final StringBuilder text = new StringBuilder();
    private final Set<Integer> names = new TreeSet<>();
    private int calls = 0;

    private Look(MigrantHeap x) {
        this.x = x;
    }

    static String at(MigrantHeap x) {
        Look look = new Look(x);
        look.ask("fault", x::fault);
        look.classes();
        look.rootsAndValues();
        look.whatCanBeTakenBack();
        look.whatWaits();
        look.ask("collect", x::collect);
        look.ask("newClass", x::newClass);
        if (look.calls > MOST_CALLS) {
            throw new AssertionError("too many calls for one look: " + look.calls);
        }
        return look.text.toString();
    }

    /** Whether the call did not throw. */
    private boolean ask(String what, IntSupplier call) {
        calls++;
        text.append(what).append('=');
        try {
            text.append(call.getAsInt()).append(' ');
            return true;
        } catch (RuntimeException e) {
            text.append(e.getClass().getSimpleName()).append(' ');
            return false;
        }
    }

    private boolean run(String what, Runnable call) {
        return ask(what, () -> {
            call.run();
            return 0;
        });
    }

    private void classes() {
        for (int c = 0; c < 4; c++) {
            int of = c;
            for (int what = 0; what < 4; what++) {
                int which = what;
                ask("about" + c + what, () -> x.about(of, which));
            }
            for (int i = 0; ask("name" + c + i, nameOf(c, i)); i++) {
                int place = i;
                names.add(x.field(c, i, 0));
                for (int what = 1; what < 4; what++) {
                    int which = what;
                    ask("field" + c + i + what, () -> x.field(of, place, which));
                }
            }
        }
    }

    private IntSupplier nameOf(int c, int i) {
        return () -> x.field(c, i, 0);
    }

    private void rootsAndValues() {
        Set<Integer> holding = new TreeSet<>();
        for (int root = 0; root <= LAST_ROOT; root++) {
            int held = root;
            if (ask("versionOf" + root, () -> x.versionOf(held))) {
                holding.add(root);
                isWhichOf(root, holding);
            }
        }
        for (int root : holding) {
            for (int name : names) {
                if (!ask("get" + root + name, () -> x.get(root, name)) && root != LAST_ROOT
                        && run("follow" + root + name, () -> x.follow(root, name, LAST_ROOT))) {
                    isWhichOf(LAST_ROOT, holding);
                }
            }
        }
    }

    private void isWhichOf(int root, Set<Integer> others) {
        for (int other : others) {
            if (other != root) {
                ask("same" + root + other, () -> x.same(root, other) ? 1 : 0);
            }
        }
    }

    private void whatCanBeTakenBack() {
        boolean some = false;
        for (int c = 0; c < 4; c++) {
            int of = c;
            some |= ask("takeBack" + c, () -> x.takeBack(of));
        }
        if (some) {
            classes();
            rootsAndValues();
        }
    }

    private void whatWaits() {
        ask("change", () -> x.change(0));
        ask("step", () -> x.step(2, 9, -FARTHEST, FARTHEST, 0));
        ask("word", () -> x.word(200));
        ask("change", () -> x.change(0));
        ask("fault", x::fault);
        for (int i = 0; ask("name" + i, nameOf(0, i)); i++) {
            int place = i;
            ask("low" + i, () -> x.field(0, place, 2));
        }
        ask("get9", () -> x.get(0, 9));
    }
}
