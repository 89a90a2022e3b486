import java.lang.reflect.InvocationTargetException;
import java.lang.reflect.Method;
import java.lang.reflect.Modifier;
import java.util.ArrayDeque;
import java.util.ArrayList;
import java.util.Deque;
import java.util.HashMap;
import java.util.List;
import java.util.Map;
import java.util.Random;

/** Long runs of calls whose every answer must be that of PlainModel. The seed is fixed. */
public final class ModelTest {
    private static final int RUNS = 3000;
    private static final int CALLS = 511;
    private static final String[] NAMES = {
        "newClass", "make", "get", "set", "link", "follow", "drop", "same", "word", "step", "change",
        "takeBack", "versionOf", "touch", "sweep", "collect", "about", "field", "fault",
    };
    private static final Map<String, Method> METHODS = methodsOf(MigrantHeap.class, PlainModel.class);
    private static final int NEW_CLASS = 0;
    private static final int MAKE = 1;
    private static final int GET = 2;
    private static final int SET = 3;
    private static final int LINK = 4;
    private static final int FOLLOW = 5;
    private static final int DROP = 6;
    private static final int SAME = 7;
    private static final int WORD = 8;
    private static final int STEP = 9;
    private static final int CHANGE = 10;
    private static final int TAKE_BACK = 11;
    private static final int VERSION_OF = 12;
    private static final int TOUCH = 13;
    private static final int SWEEP = 14;
    private static final int COLLECT = 15;
    private static final int ABOUT = 16;
    private static final int FIELD = 17;
    private static final int FAULT = 18;

    private final Random random;
    private final MigrantHeap heap = new MigrantHeap();
    private final PlainModel model = new PlainModel();
    private final Deque<int[]> planned = new ArrayDeque<>();
    private final List<String> told = new ArrayList<>();

    private ModelTest(long seed) {
        random = new Random(seed);
    }

    public static void main(String[] args) {
        int[] done = new int[8];
        for (int run = 0; run < RUNS; run++) {
            ModelTest test = new ModelTest(run);
            if (!test.run()) {
                System.out.println("run " + run + ":");
                test.told.forEach(System.out::println);
                Expect.tell("run " + run + " is not as the model");
                break;
            }
            for (int i = 0; i < done.length; i++) {
                done[i] += test.model.done[i];
            }
        }
        for (int i = 0; i < done.length; i++) {
            // Runs in which some kind of change never comes about would show nothing of it.
            Expect.yes("changes of kind " + i + " came about often: " + done[i], done[i] >= RUNS / 4);
        }
        Expect.end();
    }

    private boolean run() {
        int classes = 1 + random.nextInt(4);
        for (int i = 0; i < classes; i++) {
            planned.add(new int[] {NEW_CLASS});
        }
        for (int i = 0; i < CALLS; i++) {
            if (planned.isEmpty()) {
                plan();
            }
            int[] call = planned.remove();
            String due = answer(model, call);
            String got = answer(heap, call);
            told.add(text(call) + " = " + got);
            if (!due.equals(got)) {
                told.add("due is " + due);
                return false;
            }
        }
        return true;
    }

    private static String text(int[] call) {
        StringBuilder text = new StringBuilder(NAMES[call[0]]).append('(');
        for (int i = 1; i < call.length; i++) {
            text.append(i > 1 ? ", " : "").append(call[i]);
        }
        return text.append(')').toString();
    }

    private static String answer(Object asked, int[] call) {
        Method method = METHODS.get(asked.getClass().getSimpleName() + "." + NAMES[call[0]]);
        Object[] arguments = new Object[method.getParameterCount()];
        for (int i = 0; i < arguments.length; i++) {
            arguments[i] = call[i + 1];
        }
        try {
            Object got = method.invoke(asked, arguments);
            // The model answers numbers alone: 0 for void, 1 or 0 for a boolean.
            return got == null ? "0" : got instanceof Boolean yes ? (yes ? "1" : "0") : got.toString();
        } catch (InvocationTargetException e) {
            return "throws." + e.getCause().getClass().getSimpleName();
        } catch (IllegalAccessException e) {
            throw new AssertionError(e);
        }
    }

    private static Map<String, Method> methodsOf(Class<?>... classes) {
        Map<String, Method> methods = new HashMap<>();
        for (Class<?> c : classes) {
            for (Method method : c.getDeclaredMethods()) {
                if (!Modifier.isPrivate(method.getModifiers())) {
                    methods.put(c.getSimpleName() + "." + method.getName(), method);
                }
            }
        }
        return methods;
    }

    // What is called next: mostly what may well be done, sometimes anything.

    private void plan() {
        int dice = random.nextInt(100);
        if (dice < 6) {
            planAnything();
        } else if (dice < 24) {
            planScript();
        } else if (dice < 28) {
            planSplit();
        } else if (dice < 32) {
            planJoin();
        } else if (dice < 36) {
            planLinks();
        } else if (dice < 44) {
            put(MAKE, someClass(), root());
        } else if (dice < 75) {
            planUse();
        } else if (dice < 82) {
            put(TAKE_BACK, someClass());
        } else if (dice < 86) {
            put(COLLECT);
        } else if (dice < 89) {
            put(SWEEP, someClass());
        } else {
            planLook();
        }
    }

    private void planAnything() {
        int[] call = new int[6];
        call[0] = random.nextInt(NAMES.length);
        for (int i = 1; i < call.length; i++) {
            call[i] = random.nextInt(8) == 0 ? random.nextInt() : random.nextInt(14) - 2;
        }
        planned.add(call);
    }

    /** A use of a record that a root holds, by a field that it has. */
    private void planUse() {
        int root = root();
        Integer id = model.roots[root];
        if (id == null) {
            put(TOUCH, root);
            return;
        }
        PlainModel.Field f = someField(model.world.things.get(id).kind);
        if (f == null) {
            put(VERSION_OF, root);
        } else if (f.sort() == 0) {
            put(GET, root, f.name());
            if (random.nextInt(3) == 0) {
                put(SET, root, f.name(), f.low() + random.nextInt(f.high() - f.low() + 2) - random.nextInt(2));
            }
        } else if (f.sort() == 1 && random.nextInt(2) == 0) {
            put(LINK, root, f.name(), root());
        } else {
            put(FOLLOW, root, f.name(), root());
        }
    }

    /** Each record that a root holds is linked to another one that may well be of the right class. */
    private void planLinks() {
        for (int root = 0; root < 8; root++) {
            Integer id = model.roots[root];
            PlainModel.Field f = id == null ? null : someField(model.world.things.get(id).kind);
            int other = random.nextInt(8);
            Integer to = model.roots[other];
            if (f != null && f.sort() == 1 && (to == null || model.world.things.get(to).kind == f.low())) {
                put(LINK, root, f.name(), other);
            }
        }
        put(DROP, root());
    }

    private void planLook() {
        int c = someClass();
        switch (random.nextInt(6)) {
            case 0: put(VERSION_OF, root()); break;
            case 1: put(DROP, root()); break;
            case 2: put(SAME, root(), root()); break;
            case 3: put(FIELD, c, random.nextInt(7) - 1, random.nextInt(5)); break;
            case 4: put(FAULT); break;
            default:
                for (int what = 0; what < 4; what++) {
                    put(ABOUT, c, what);
                }
                break;
        }
    }

    private void planScript() {
        int c = someClass();
        int count = 1 + random.nextInt(random.nextInt(3) == 0 ? 6 : 2);
        for (int i = 0; i < count; i++) {
            planStep(c);
        }
        put(CHANGE, c);
    }

    private void planStep(int c) {
        PlainModel.Field f = someField(c);
        int a = f == null ? name() : f.name();
        switch (random.nextInt(9)) {
            case 0: put(STEP, 0, a, 0, 0, 0); break;
            case 1: put(STEP, 1, a, name(), 0, 0); break;
            case 2: planRange(f, a); break;
            case 3: put(STEP, 4, name(), someClass(), 0, 0); break;
            case 4: case 5: put(STEP, 6, a, 0, 0, 0); break;
            default: planNumber(c); break;
        }
    }

    private void planRange(PlainModel.Field f, int a) {
        int low = f == null || f.sort() != 0 ? 0 : f.low();
        int high = f == null || f.sort() != 0 ? 9 : f.high();
        int newLow = Math.max(-1000000, low + random.nextInt(9) - 5);
        int newHigh = Math.min(1000000, Math.max(newLow, high + random.nextInt(9) - 3));
        put(STEP, 3, a, newLow, newHigh, random.nextInt(2));
    }

    private void planNumber(int c) {
        int depth = 1;
        planLeaf(c);
        int more = random.nextInt(4);
        for (int i = 0; i < more; i++) {
            if (random.nextInt(4) == 0) {
                put(WORD, 16);
            } else {
                planLeaf(c);
                depth++;
            }
            while (depth > 1 && random.nextInt(3) > 0) {
                put(WORD, 10 + random.nextInt(6));
                depth--;
            }
        }
        for (; depth > 1; depth--) {
            put(WORD, 10 + random.nextInt(6));
        }
        int far = random.nextInt(3) == 0 ? 10 + random.nextInt(100) : 1000000;
        put(STEP, 2, name(), -far, far, 0);
    }

    private void planLeaf(int c) {
        PlainModel.Field f = someField(c);
        boolean literal = f == null || f.sort() != 0 || random.nextInt(3) == 0;
        put(WORD, literal ? 200 + random.nextInt(21) - 10 : f.name());
    }

    /** Gives class b the fields that some of class c's would need there, then splits them off. */
    private void planSplit() {
        int c = someClass();
        int b = someClass();
        int set = 0;
        List<int[]> calls = new ArrayList<>();
        if (model.isClass(b) && model.isClass(c)) {
            for (PlainModel.Field f : model.world.fields.get(b)) {
                calls.add(new int[] {STEP, 0, f.name(), 0, 0, 0});
            }
            int count = 0;
            for (PlainModel.Field f : model.world.fields.get(c)) {
                if (f.sort() == 0 && random.nextInt(3) > 0 && calls.size() + count < 6) {
                    set |= 1 << f.name();
                    count++;
                }
            }
            for (int name = 9; name >= 0; name--) {
                if ((set & 1 << name) != 0) {
                    calls.add(new int[] {WORD, 200});
                    calls.add(new int[] {STEP, 2, name, -1000000, 1000000 - random.nextInt(2), 0});
                }
            }
        }
        boolean there = model.isClass(b) && !model.world.fields.get(b).isEmpty() && random.nextInt(2) == 0;
        if (there) {
            set = 0;
            for (PlainModel.Field f : model.world.fields.get(b)) {
                set |= 1 << f.name();
            }
        } else {
            planned.addAll(calls);
            put(CHANGE, b);
        }
        put(STEP, 5, name(), b, set, 0);
        put(CHANGE, c);
    }

    /** Joins an owning field, mostly when no root holds what it refers to, and sometimes splits it off again. */
    private void planJoin() {
        int c = someClass();
        if (!model.isClass(c)) {
            put(CHANGE, c);
            return;
        }
        List<PlainModel.Field> fields = model.world.fields.get(c);
        PlainModel.Field f = fields.stream().filter(g -> g.sort() == 2).findAny().orElse(someField(c));
        if (f == null || f.sort() == 0) {
            put(ABOUT, c, 1);
            return;
        }
        for (int root = 0; root < 8; root++) {
            Integer id = model.roots[root];
            if (id != null && model.world.things.get(id).kind == f.low() && random.nextInt(12) > 0) {
                put(DROP, root);
            }
        }
        put(STEP, 6, f.name(), 0, 0, 0);
        if (random.nextInt(3) == 0) {
            int set = 0;
            for (PlainModel.Field part : model.world.fields.get(f.low())) {
                set |= 1 << part.name();
            }
            put(STEP, 5, f.name(), f.low(), set, 0);
        }
        put(CHANGE, c);
    }

    private PlainModel.Field someField(int c) {
        if (!model.isClass(c) || model.world.fields.get(c).isEmpty()) {
            return null;
        }
        List<PlainModel.Field> fields = model.world.fields.get(c);
        return fields.get(random.nextInt(fields.size()));
    }

    private int someClass() {
        return random.nextInt(40) == 0 ? 4 : random.nextInt(Math.max(1, model.newest.size()));
    }

    private int root() {
        return random.nextInt(60) == 0 ? random.nextInt(8) : random.nextInt(random.nextInt(2) == 0 ? 3 : 8);
    }

    private int name() {
        return random.nextInt(10);
    }

    private void put(int... call) {
        planned.add(call);
    }
}
