import java.math.BigInteger;
import java.util.ArrayDeque;
import java.util.ArrayList;
import java.util.Deque;
import java.util.HashMap;
import java.util.HashSet;
import java.util.List;
import java.util.Map;
import java.util.NoSuchElementException;
import java.util.Set;
import java.util.TreeMap;

/**
 * The document once more, as plainly as the Java library allows and without a thought of speed: values
 * are kept by name, a script is tried step by step on a copy of the whole world, and a change keeps a
 * copy of the class from before it.
 */
final class PlainModel {
    static final long FARTHEST = 1_000_000_000_000L;

    record Field(int name, int sort, int low, int high, Integer oldName) {
        Field as(int newName) {
            return new Field(newName, sort, low, high, oldName);
        }

        Field with(int newLow, int newHigh) {
            return new Field(name, sort, newLow, newHigh, oldName);
        }
    }

    record Step(int kind, int a, int b, int c, int d, List<Integer> formula) {
    }

    static final class Thing {
        final int id;
        final int kind;
        int kept;
        /** Numbers, or ids of records (null: nothing). */
        final Map<Integer, Integer> values = new HashMap<>();

        Thing(int id, int kind, int kept) {
            this.id = id;
            this.kind = kind;
            this.kept = kept;
        }

        Thing copy() {
            Thing other = new Thing(id, kind, kept);
            other.values.putAll(values);
            return other;
        }
    }

    static final class World {
        final List<List<Field>> fields = new ArrayList<>();
        final Map<Integer, Thing> things = new TreeMap<>();
        int made = 0;

        World copy() {
            World other = new World();
            for (List<Field> row : fields) {
                other.fields.add(new ArrayList<>(row));
            }
            things.forEach((id, thing) -> other.things.put(id, thing.copy()));
            other.made = made;
            return other;
        }

        List<Thing> of(int c) {
            return things.values().stream().filter(t -> t.kind == c).toList();
        }

        Field field(int c, int name) {
            return fields.get(c).stream().filter(f -> f.name == name).findFirst().orElse(null);
        }

        boolean hasReferences(int c) {
            return fields.get(c).stream().anyMatch(f -> f.sort != 0);
        }

        Thing add(int c, int kept) {
            made++;
            Thing thing = new Thing(made, c, kept);
            things.put(made, thing);
            return thing;
        }
    }

    World world = new World();
    final List<Integer> newest = new ArrayList<>();
    final Integer[] roots = new Integer[8];
    List<Integer> words = new ArrayList<>();
    List<Step> steps = new ArrayList<>();
    int fault = -1;
    /** For each class whose latest change may be taken back: the world before it. */
    final Map<Integer, World> before = new HashMap<>();
    /** How often each kind of step has been carried out; at 7, how often a change was taken back. */
    final int[] done = new int[8];

    int newClass() {
        state(newest.size() < 4);
        newest.add(0);
        world.fields.add(new ArrayList<>());
        return newest.size() - 1;
    }

    int make(int c, int root) {
        argument(isClass(c) && isRoot(root));
        World tried = world.copy();
        Set<Integer> kinds = new HashSet<>();
        int id = makeIn(tried, c, kinds);
        state(tried.things.size() <= 24);
        world = tried;
        kinds.forEach(before::remove);
        roots[root] = id;
        return 0;
    }

    private int makeIn(World tried, int c, Set<Integer> kinds) {
        kinds.add(c);
        Thing thing = tried.add(c, newest.get(c));
        for (Field f : tried.fields.get(c)) {
            if (f.sort == 0) {
                thing.values.put(f.name, f.low > 0 ? f.low : f.high < 0 ? f.high : 0);
            } else {
                thing.values.put(f.name, f.sort == 2 ? makeIn(tried, f.low, kinds) : null);
            }
        }
        return thing.id;
    }

    int get(int root, int name) {
        argument(isRoot(root) && isName(name));
        Thing thing = held(root);
        element(field(thing, name, false) != null);
        bring(thing);
        return thing.values.get(name);
    }

    int set(int root, int name, int v) {
        argument(isRoot(root) && isName(name));
        Thing thing = held(root);
        Field f = field(thing, name, false);
        element(f != null);
        state(f.low <= v && v <= f.high);
        thing.values.put(name, v);
        bring(thing);
        before.remove(thing.kind);
        return 0;
    }

    int link(int root, int name, int other) {
        argument(isRoot(root) && isName(name) && isRoot(other));
        Thing thing = held(root);
        Field f = field(thing, name, true);
        element(f != null);
        state(f.sort == 1);
        Integer id = roots[other];
        state(id == null || (world.things.get(id).kind == f.low && !owned(id)));
        thing.values.put(name, id);
        bring(thing);
        before.remove(thing.kind);
        return 0;
    }

    int follow(int root, int name, int to) {
        argument(isRoot(root) && isName(name) && isRoot(to));
        Thing thing = held(root);
        element(field(thing, name, true) != null);
        bring(thing);
        roots[to] = thing.values.get(name);
        return 0;
    }

    int drop(int root) {
        argument(isRoot(root));
        int held = roots[root] == null ? 0 : 1;
        roots[root] = null;
        return held;
    }

    int same(int root, int other) {
        argument(isRoot(root) && isRoot(other));
        return java.util.Objects.equals(roots[root], roots[other]) ? 1 : 0;
    }

    int word(int w) {
        argument((w >= 0 && w < 17) || (w > 99 && w < 301));
        state(words.size() < 12);
        words.add(w);
        return words.size();
    }

    int step(int kind, int a, int b, int c, int d) {
        argument(kind >= 0 && kind <= 6 && isName(a));
        argument(kind != 1 || isName(b));
        argument((kind != 2 && kind != 3) || (-1000000 <= b && b <= c && c <= 1000000));
        argument(kind != 2 || right());
        argument(kind != 3 || d == 0 || d == 1);
        argument((kind != 4 && kind != 5) || isClass(b));
        argument(kind != 5 || (0 < c && c < 1024));
        state(steps.size() < 6);
        steps.add(new Step(kind, a, b, c, d, kind == 2 ? words : null));
        if (kind == 2) {
            words = new ArrayList<>();
        }
        return steps.size();
    }

    private boolean right() {
        int high = 0;
        for (int w : words) {
            int need = w < 10 || w > 99 ? 0 : w == 16 ? 1 : 2;
            if (high < need) {
                return false;
            }
            high = high - need + 1;
        }
        return high == 1;
    }

    int change(int c) {
        argument(isClass(c) && !steps.isEmpty());
        List<Step> script = steps;
        steps = new ArrayList<>();
        fault = -1;
        state(newest.get(c) < 9);
        World tried = world.copy();
        tried.fields.get(c).replaceAll(f -> new Field(f.name, f.sort, f.low, f.high, f.name));
        Set<Integer> parts = new HashSet<>();
        for (int i = 0; i < script.size(); i++) {
            if (!tryStep(tried, c, script.get(i), parts)) {
                fault = i;
                throw new IllegalStateException();
            }
        }
        script.forEach(s -> done[s.kind]++);
        before.keySet().removeAll(parts);
        before.remove(c);
        if (parts.isEmpty()) {
            before.put(c, world.copy());
        }
        world = tried;
        newest.set(c, newest.get(c) + 1);
        return newest.get(c);
    }

    private boolean tryStep(World w, int c, Step s, Set<Integer> parts) {
        List<Field> now = w.fields.get(c);
        Field f = w.field(c, s.a);
        switch (s.kind) {
            case 0:
                if (f == null || f.sort == 2) {
                    return false;
                }
                now.remove(f);
                w.of(c).forEach(t -> t.values.remove(s.a));
                return true;
            case 1:
                if (f == null || w.field(c, s.b) != null) {
                    return false;
                }
                now.set(now.indexOf(f), f.as(s.b));
                w.of(c).forEach(t -> t.values.put(s.b, t.values.remove(s.a)));
                return true;
            case 2:
                return f == null && now.size() < 6 && tryNumber(w, c, s);
            case 3:
                if (f == null || f.sort != 0 || (s.d == 0 && (f.low < s.b || f.high > s.c))) {
                    return false;
                }
                now.set(now.indexOf(f), f.with(s.b, s.c));
                w.of(c).forEach(t -> t.values.compute(s.a, (n, v) -> v < s.b ? s.b : v > s.c ? s.c : v));
                return true;
            case 4:
                if (f != null || now.size() >= 6) {
                    return false;
                }
                now.add(new Field(s.a, 1, s.b, s.b, null));
                w.of(c).forEach(t -> t.values.put(s.a, null));
                return true;
            case 5:
                parts.add(s.b);
                return s.b != c && trySplit(w, c, s);
            default:
                if (f == null || f.sort != 2 || f.oldName == null) {
                    return false;
                }
                parts.add(f.low);
                return tryJoin(w, c, f);
        }
    }

    private boolean tryNumber(World w, int c, Step s) {
        Map<Integer, BigInteger[]> ranges = new HashMap<>();
        for (Field f : world.fields.get(c)) {
            if (f.sort == 0) {
                ranges.put(f.name, new BigInteger[] {BigInteger.valueOf(f.low), BigInteger.valueOf(f.high)});
            }
        }
        BigInteger[] all = reckon(s.formula, ranges);
        if (all == null || all[0].compareTo(BigInteger.valueOf(s.b)) < 0
                || all[1].compareTo(BigInteger.valueOf(s.c)) > 0) {
            return false;
        }
        w.fields.get(c).add(new Field(s.a, 0, s.b, s.c, null));
        for (Thing t : w.of(c)) {
            Thing old = world.things.get(t.id);
            t.values.put(s.a, (int) valueOf(s.formula, old.values));
        }
        return true;
    }

    private static BigInteger[] reckon(List<Integer> formula, Map<Integer, BigInteger[]> ranges) {
        Deque<BigInteger[]> pile = new ArrayDeque<>();
        for (int w : formula) {
            BigInteger[] laid;
            if (w < 10) {
                laid = ranges.get(w);
            } else if (w > 99) {
                laid = new BigInteger[] {BigInteger.valueOf(w - 200), BigInteger.valueOf(w - 200)};
            } else if (w == 16) {
                BigInteger[] x = pile.pop();
                laid = new BigInteger[] {x[1].negate(), x[0].negate()};
            } else {
                BigInteger[] y = pile.pop();
                BigInteger[] x = pile.pop();
                laid = w == 13 && y[0].signum() <= 0 && y[1].signum() >= 0 ? null : both(w, x, y);
            }
            if (laid == null || laid[0].longValue() < -FARTHEST || laid[1].longValue() > FARTHEST
                    || laid[0].bitLength() > 60 || laid[1].bitLength() > 60) {
                return null;
            }
            pile.push(laid);
        }
        return pile.pop();
    }

    private static BigInteger[] both(int w, BigInteger[] x, BigInteger[] y) {
        BigInteger[] range = null;
        for (BigInteger l : x) {
            for (BigInteger r : y) {
                BigInteger v = w == 10 ? l.add(r) : w == 11 ? l.subtract(r) : w == 12 ? l.multiply(r)
                        : w == 13 ? l.divide(r) : w == 14 ? l.min(r) : l.max(r);
                range = range == null ? new BigInteger[] {v, v} : new BigInteger[] {range[0].min(v), range[1].max(v)};
            }
        }
        return range;
    }

    private static long valueOf(List<Integer> formula, Map<Integer, Integer> values) {
        Deque<Long> pile = new ArrayDeque<>();
        for (int w : formula) {
            if (w < 10) {
                pile.push((long) values.get(w));
            } else if (w > 99) {
                pile.push(w - 200L);
            } else if (w == 16) {
                pile.push(-pile.pop());
            } else {
                long y = pile.pop();
                long x = pile.pop();
                pile.push(w == 10 ? x + y : w == 11 ? x - y : w == 12 ? x * y : w == 13 ? x / y
                        : w == 14 ? Math.min(x, y) : Math.max(x, y));
            }
        }
        return pile.pop();
    }

    private boolean trySplit(World w, int c, Step s) {
        Set<Integer> names = new HashSet<>();
        for (int name = 0; name < 10; name++) {
            if ((s.c & 1 << name) != 0) {
                names.add(name);
            }
        }
        Set<Integer> theirs = new HashSet<>();
        w.fields.get(s.b).forEach(f -> theirs.add(f.name));
        if (!names.equals(theirs) || w.hasReferences(s.b)) {
            return false;
        }
        for (int name : names) {
            Field f = w.field(c, name);
            Field there = w.field(s.b, name);
            if (f == null || f.sort != 0 || f.low < there.low || f.high > there.high) {
                return false;
            }
        }
        w.fields.get(c).removeIf(f -> names.contains(f.name));
        if (w.field(c, s.a) != null || w.fields.get(c).size() >= 6
                || w.things.size() + w.of(c).size() > 24) {
            return false;
        }
        w.fields.get(c).add(new Field(s.a, 2, s.b, s.b, null));
        for (Thing t : w.of(c)) {
            Thing part = w.add(s.b, newest.get(s.b));
            names.forEach(name -> part.values.put(name, t.values.remove(name)));
            t.values.put(s.a, part.id);
        }
        return true;
    }

    private boolean tryJoin(World w, int c, Field f) {
        if (w.hasReferences(f.low)) {
            return false;
        }
        w.fields.get(c).remove(f);
        for (Field come : w.fields.get(f.low)) {
            if (w.field(c, come.name) != null) {
                return false;
            }
            w.fields.get(c).add(new Field(come.name, 0, come.low, come.high, null));
        }
        if (w.fields.get(c).size() > 6) {
            return false;
        }
        for (Thing t : w.of(c)) {
            Integer id = t.values.remove(f.name);
            for (Integer root : roots) {
                if (id.equals(root)) {
                    return false;
                }
            }
            t.values.putAll(w.things.remove(id).values);
        }
        return true;
    }

    int takeBack(int c) {
        argument(isClass(c));
        state(before.containsKey(c));
        World old = before.remove(c);
        int count = 0;
        for (Thing t : world.of(c)) {
            t.values.clear();
            t.values.putAll(old.things.get(t.id).values);
            for (Field f : old.fields.get(c)) {
                if (f.sort != 0 && !world.things.containsKey(t.values.get(f.name) == null ? -1 : t.values.get(f.name))) {
                    t.values.put(f.name, null);
                }
            }
            if (t.kept == newest.get(c)) {
                t.kept--;
                count++;
            }
        }
        world.fields.set(c, old.fields.get(c));
        newest.set(c, newest.get(c) - 1);
        done[7]++;
        return count;
    }

    int versionOf(int root) {
        argument(isRoot(root));
        return held(root).kept;
    }

    int touch(int root) {
        argument(isRoot(root));
        return bring(held(root));
    }

    int sweep(int c) {
        argument(isClass(c));
        int count = 0;
        for (Thing t : world.of(c)) {
            count += bring(t) > 0 ? 1 : 0;
        }
        return count;
    }

    int collect() {
        Set<Integer> seen = new HashSet<>();
        for (Integer root : roots) {
            see(root, seen);
        }
        int count = world.things.size() - seen.size();
        world.things.keySet().retainAll(seen);
        return count;
    }

    private void see(Integer id, Set<Integer> seen) {
        if (id == null || !seen.add(id)) {
            return;
        }
        Thing t = world.things.get(id);
        for (Field f : world.fields.get(t.kind)) {
            if (f.sort != 0) {
                see(t.values.get(f.name), seen);
            }
        }
    }

    int about(int c, int what) {
        argument(isClass(c) && what >= 0 && what <= 3);
        int late = (int) world.of(c).stream().filter(t -> t.kept != newest.get(c)).count();
        return new int[] {newest.get(c), world.of(c).size(), late, world.fields.get(c).size()}[what];
    }

    int field(int c, int i, int what) {
        argument(isClass(c) && what >= 0 && what <= 3);
        if (i < 0 || i >= world.fields.get(c).size()) {
            throw new IndexOutOfBoundsException();
        }
        Field f = world.fields.get(c).get(i);
        return new int[] {f.name, f.sort, f.low, f.high}[what];
    }

    int fault() {
        return fault;
    }

    boolean isClass(int c) {
        return c >= 0 && c < newest.size();
    }

    private static boolean isRoot(int root) {
        return root >= 0 && root < 8;
    }

    private static boolean isName(int name) {
        return name >= 0 && name < 10;
    }

    private Thing held(int root) {
        element(roots[root] != null);
        return world.things.get(roots[root]);
    }

    private Field field(Thing thing, int name, boolean reference) {
        Field f = world.field(thing.kind, name);
        return f != null && (f.sort != 0) == reference ? f : null;
    }

    private int bring(Thing thing) {
        int later = newest.get(thing.kind) - thing.kept;
        thing.kept = newest.get(thing.kind);
        return later;
    }

    private boolean owned(int id) {
        for (Thing t : world.things.values()) {
            for (Field f : world.fields.get(t.kind)) {
                if (f.sort == 2 && t.values.get(f.name) == id) {
                    return true;
                }
            }
        }
        return false;
    }

    private static void argument(boolean fine) {
        if (!fine) {
            throw new IllegalArgumentException();
        }
    }

    private static void state(boolean fine) {
        if (!fine) {
            throw new IllegalStateException();
        }
    }

    private static void element(boolean fine) {
        if (!fine) {
            throw new NoSuchElementException();
        }
    }
}
