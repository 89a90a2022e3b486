import java.util.NoSuchElementException;

/**
 * Records whose classes change while they are in use.
 *
 * <p>Every change is carried out on all records of its class at once, and each record only
 * remembers as which version it is kept: what is seen is then as if at once without any effort.
 * The values from before the latest change stay beside those of now, for takeBack().
 */
public final class MigrantHeap {
    private static final int MAX_CLASSES = 4;
    private static final int MAX_VERSIONS = 10;
    private static final int MAX_FIELDS = 6;
    private static final int MAX_RECORDS = 24;
    private static final int MAX_STEPS = 6;
    private static final int MAX_WORDS = 12;
    private static final int ROOTS = 8;
    private static final int NAMES = 10;
    private static final int ALL_NAMES = 1023;
    private static final int FARTHEST_END = 1000000;
    private static final long FARTHEST_RESULT = 1000000000000L;

    /** What a root or a reference holds that holds no record; the id of no record. */
    private static final int NOTHING = 0;
    /** The place of a field that is not there, the origin of a new one, the fault of no step. */
    private static final int NONE = -1;

    private static final int SORT_NUMBER = 0;
    private static final int SORT_REFERENCE = 1;
    private static final int SORT_OWNING = 2;

    private static final int DROP = 0;
    private static final int NAME = 1;
    private static final int NUMBER = 2;
    private static final int RANGE = 3;
    private static final int REFERENCE = 4;
    private static final int SPLIT = 5;
    private static final int JOIN = 6;

    private static final int PLUS = 10;
    private static final int MINUS = 11;
    private static final int TIMES = 12;
    private static final int DIVIDE = 13;
    private static final int LESSER = 14;
    private static final int GREATER = 15;
    private static final int NEGATE = 16;
    private static final int FIRST_LITERAL = 100;
    private static final int LAST_LITERAL = 300;
    private static final int LITERAL_ZERO = 200;

    private final Kind[] kinds;
    private int kindCount;
    private final Store store;
    private final int[] roots;
    private final Formula waitingWords;
    private final Step[] steps;
    private int stepCount;
    private int faultAt;
    private final Shape draft;
    private final Pile pile;
    private final Entry[] line;

    public MigrantHeap() {
        kinds = new Kind[MAX_CLASSES];
        for (int i = 0; i < MAX_CLASSES; i++) {
            kinds[i] = new Kind();
        }
        store = new Store();
        roots = new int[ROOTS];
        waitingWords = new Formula();
        steps = new Step[MAX_STEPS];
        for (int i = 0; i < MAX_STEPS; i++) {
            steps[i] = new Step();
        }
        faultAt = NONE;
        draft = new Shape();
        pile = new Pile();
        line = new Entry[MAX_RECORDS];
    }

    public int newClass() throws IllegalStateException {
        if (kindCount >= MAX_CLASSES) {
            throw new IllegalStateException("there are four classes");
        }
        kindCount++;
        return kindCount - 1;
    }

    public void make(int c, int root) throws IllegalArgumentException, IllegalStateException {
        needClass(c);
        needRoot(root);
        if (store.count + familySize(c, 0) > MAX_RECORDS) {
            throw new IllegalStateException("there would be too many records");
        }
        roots[root] = newFamily(c, 0);
    }

    public int get(int root, int name) throws IllegalArgumentException, NoSuchElementException {
        needRoot(root);
        needName(name);
        Entry entry = heldBy(root);
        int place = numberPlace(entry, name);
        bringForward(entry);
        return entry.values[place];
    }

    public void set(int root, int name, int v)
            throws IllegalArgumentException, NoSuchElementException, IllegalStateException {
        needRoot(root);
        needName(name);
        Entry entry = heldBy(root);
        int place = numberPlace(entry, name);
        Kind kind = kinds[entry.kind];
        if (v < kind.shape.lows[place] || v > kind.shape.highs[place]) {
            throw new IllegalStateException("the number is not in the range");
        }
        entry.values[place] = v;
        kind.revocable = false;
        bringForward(entry);
    }

    public void link(int root, int name, int other)
            throws IllegalArgumentException, NoSuchElementException, IllegalStateException {
        needRoot(root);
        needName(name);
        needRoot(other);
        Entry entry = heldBy(root);
        int place = referencePlace(entry, name);
        Kind kind = kinds[entry.kind];
        if (kind.shape.isOwning(place) || !mayBeReferredTo(roots[other], kind.shape.lows[place])) {
            throw new IllegalStateException("the reference can't refer to that");
        }
        entry.values[place] = roots[other];
        kind.revocable = false;
        bringForward(entry);
    }

    public void follow(int root, int name, int to) throws IllegalArgumentException, NoSuchElementException {
        needRoot(root);
        needName(name);
        needRoot(to);
        Entry entry = heldBy(root);
        int place = referencePlace(entry, name);
        bringForward(entry);
        roots[to] = entry.values[place];
    }

    public boolean drop(int root) throws IllegalArgumentException {
        needRoot(root);
        boolean held = roots[root] != NOTHING;
        roots[root] = NOTHING;
        return held;
    }

    public boolean same(int root, int other) throws IllegalArgumentException {
        needRoot(root);
        needRoot(other);
        return roots[root] == roots[other];
    }

    public int word(int w) throws IllegalArgumentException, IllegalStateException {
        if (!isWord(w)) {
            throw new IllegalArgumentException("no word");
        }
        if (waitingWords.size >= MAX_WORDS) {
            throw new IllegalStateException("twelve words wait");
        }
        waitingWords.append(w);
        return waitingWords.size;
    }

    public int step(int kind, int a, int b, int c, int d) throws IllegalArgumentException, IllegalStateException {
        if (!isStep(kind, a, b, c, d)) {
            throw new IllegalArgumentException("no step");
        }
        if (stepCount >= MAX_STEPS) {
            throw new IllegalStateException("six steps wait");
        }
        Step last = steps[stepCount];
        last.fill(kind, a, b, c, d);
        if (kind == NUMBER) {
            last.formula.copyFrom(waitingWords);
            waitingWords.size = 0;
        }
        stepCount++;
        return stepCount;
    }

    public int change(int c) throws IllegalArgumentException, IllegalStateException {
        needClass(c);
        if (stepCount == 0) {
            throw new IllegalArgumentException("no step waits");
        }
        int count = stepCount;
        Kind kind = kinds[c];
        stepCount = 0;
        faultAt = NONE;
        if (kind.newest + 1 >= MAX_VERSIONS) {
            throw new IllegalStateException("the class has ten versions");
        }
        faultAt = firstRefused(c, count);
        if (faultAt != NONE) {
            throw new IllegalStateException("the script is refused");
        }
        carryOut(c, count);
        return kind.newest;
    }

    public int takeBack(int c) throws IllegalArgumentException, IllegalStateException {
        needClass(c);
        Kind kind = kinds[c];
        if (!kind.revocable) {
            throw new IllegalStateException("there is no change that can be taken back");
        }
        int moved = 0;
        for (int i = 0; i < MAX_RECORDS; i++) {
            Entry entry = store.entries[i];
            if (entry.isOf(c)) {
                restore(entry, kind.shapeBefore);
                if (entry.keptAs == kind.newest) {
                    entry.keptAs--;
                    moved++;
                }
            }
        }
        kind.shape.copyFrom(kind.shapeBefore);
        kind.newest--;
        kind.revocable = false;
        return moved;
    }

    public int versionOf(int root) throws IllegalArgumentException, NoSuchElementException {
        needRoot(root);
        return heldBy(root).keptAs;
    }

    public int touch(int root) throws IllegalArgumentException, NoSuchElementException {
        needRoot(root);
        return bringForward(heldBy(root));
    }

    public int sweep(int c) throws IllegalArgumentException {
        needClass(c);
        int moved = 0;
        for (int i = 0; i < MAX_RECORDS; i++) {
            Entry entry = store.entries[i];
            if (entry.isOf(c) && bringForward(entry) > 0) {
                moved++;
            }
        }
        return moved;
    }

    public int collect() {
        reachAll();
        int gone = 0;
        for (int i = 0; i < MAX_RECORDS; i++) {
            Entry entry = store.entries[i];
            if (entry.id != NOTHING && !entry.reached) {
                store.remove(entry);
                gone++;
            }
        }
        return gone;
    }

    public int about(int c, int what) throws IllegalArgumentException {
        needClass(c);
        switch (what) {
            case 0:
                return kinds[c].newest;
            case 1:
                return store.countOf(c);
            case 2:
                return store.countOf(c) - store.countKeptAs(c, kinds[c].newest);
            case 3:
                return kinds[c].shape.size;
            default:
                throw new IllegalArgumentException("nothing is told by this number");
        }
    }

    public int field(int c, int i, int what) throws IllegalArgumentException, IndexOutOfBoundsException {
        needClass(c);
        if (what < 0 || what > 3) {
            throw new IllegalArgumentException("nothing is told by this number");
        }
        Shape shape = kinds[c].shape;
        if (i < 0 || i >= shape.size) {
            throw new IndexOutOfBoundsException("no such field");
        }
        switch (what) {
            case 0:
                return shape.names[i];
            case 1:
                return shape.sorts[i];
            case 2:
                return shape.lows[i];
            default:
                return shape.highs[i];
        }
    }

    public int fault() {
        return faultAt;
    }

    // What arguments may be.

    private void needClass(int c) {
        if (!isClass(c)) {
            throw new IllegalArgumentException("no such class");
        }
    }

    private static void needRoot(int root) {
        if (root < 0 || root >= ROOTS) {
            throw new IllegalArgumentException("no such root");
        }
    }

    private static void needName(int name) {
        if (!isName(name)) {
            throw new IllegalArgumentException("no such name");
        }
    }

    private boolean isClass(int c) {
        return c >= 0 && c < kindCount;
    }

    private static boolean isName(int name) {
        return name >= 0 && name < NAMES;
    }

    private static boolean isRange(int low, int high) {
        return low >= -FARTHEST_END && low <= high && high <= FARTHEST_END;
    }

    private static boolean isWord(int w) {
        return (w >= 0 && w <= NEGATE) || (w >= FIRST_LITERAL && w <= LAST_LITERAL);
    }

    private boolean isStep(int kind, int a, int b, int c, int d) {
        if (!isName(a)) {
            return false;
        }
        switch (kind) {
            case DROP:
            case JOIN:
                return true;
            case NAME:
                return isName(b);
            case NUMBER:
                return isRange(b, c) && waitingWords.isRight();
            case RANGE:
                return isRange(b, c) && (d == 0 || d == 1);
            case REFERENCE:
                return isClass(b);
            case SPLIT:
                return isClass(b) && c >= 1 && c <= ALL_NAMES;
            default:
                return false;
        }
    }

    // Records, and what they hold.

    private Entry heldBy(int root) {
        Entry entry = store.find(roots[root]);
        if (entry == null) {
            throw new NoSuchElementException("the root holds nothing");
        }
        return entry;
    }

    private int numberPlace(Entry entry, int name) {
        Shape shape = kinds[entry.kind].shape;
        int place = shape.placeOf(name);
        if (!shape.isNumber(place)) {
            throw new NoSuchElementException("no such number");
        }
        return place;
    }

    private int referencePlace(Entry entry, int name) {
        Shape shape = kinds[entry.kind].shape;
        int place = shape.placeOf(name);
        if (!shape.isReference(place)) {
            throw new NoSuchElementException("no such reference");
        }
        return place;
    }

    /** Touches a record: by how many versions. */
    private int bringForward(Entry entry) {
        int newest = kinds[entry.kind].newest;
        int later = newest - entry.keptAs;
        entry.keptAs = newest;
        return later;
    }

    private boolean mayBeReferredTo(int id, int c) {
        Entry other = store.find(id);
        return other == null || (other.kind == c && !isOwned(id));
    }

    private boolean isOwned(int id) {
        for (int i = 0; i < MAX_RECORDS; i++) {
            Entry entry = store.entries[i];
            if (entry.id != NOTHING && owns(entry, id)) {
                return true;
            }
        }
        return false;
    }

    private boolean owns(Entry entry, int id) {
        Shape shape = kinds[entry.kind].shape;
        for (int i = 0; i < shape.size; i++) {
            if (shape.isOwning(i) && entry.values[i] == id) {
                return true;
            }
        }
        return false;
    }

    /**
     * How many records come with a new one, itself among them. A class is split off only into one
     * without references, so owning never runs in a ring and is no deeper than there are classes.
     */
    private int familySize(int c, int depth) {
        if (depth >= MAX_CLASSES) {
            return 0;
        }
        Shape shape = kinds[c].shape;
        int size = 1;
        for (int i = 0; i < shape.size; i++) {
            if (shape.isOwning(i)) {
                size += familySize(shape.lows[i], depth + 1);
            }
        }
        return size;
    }

    private int newFamily(int c, int depth) {
        if (depth >= MAX_CLASSES) {
            return NOTHING;
        }
        Entry entry = newRecord(c);
        if (entry == null) {
            return NOTHING;
        }
        Shape shape = kinds[c].shape;
        for (int i = 0; i < shape.size; i++) {
            if (shape.isNumber(i)) {
                entry.values[i] = nearest(0, shape.lows[i], shape.highs[i]);
            } else if (shape.isOwning(i)) {
                entry.values[i] = newFamily(shape.lows[i], depth + 1);
            } else {
                entry.values[i] = NOTHING;
            }
        }
        return entry.id;
    }

    private Entry newRecord(int c) {
        Kind kind = kinds[c];
        kind.revocable = false;
        return store.add(c, kind.newest);
    }

    private static int nearest(int value, int low, int high) {
        return Math.max(low, Math.min(high, value));
    }

    private void restore(Entry entry, Shape shape) {
        for (int i = 0; i < shape.size; i++) {
            int value = entry.before[i];
            boolean lost = shape.isReference(i) && store.find(value) == null;
            entry.values[i] = lost ? NOTHING : value;
        }
    }

    private void reachAll() {
        for (int i = 0; i < MAX_RECORDS; i++) {
            store.entries[i].reached = false;
        }
        int reached = 0;
        for (int i = 0; i < ROOTS; i++) {
            reached = reach(roots[i], reached);
        }
        for (int next = 0; next < reached && next < MAX_RECORDS; next++) {
            reached = reachFrom(line[next], reached);
        }
    }

    private int reachFrom(Entry entry, int reached) {
        if (entry == null) {
            return reached;
        }
        int longer = reached;
        Shape shape = kinds[entry.kind].shape;
        for (int i = 0; i < shape.size; i++) {
            if (shape.isReference(i)) {
                longer = reach(entry.values[i], longer);
            }
        }
        return longer;
    }

    /** Puts a record that was not reached before into the line: how long the line is then. */
    private int reach(int id, int reached) {
        Entry entry = store.find(id);
        if (entry == null || entry.reached || reached >= MAX_RECORDS) {
            return reached;
        }
        entry.reached = true;
        line[reached] = entry;
        return reached + 1;
    }

    // Whether a script can be done: the draft has the fields that the steps so far made.

    private int firstRefused(int c, int count) {
        draft.startFrom(kinds[c].shape);
        int records = store.count;
        for (int i = 0; i < count && i < MAX_STEPS; i++) {
            Step step = steps[i];
            if (!canDo(step, c, records)) {
                return i;
            }
            records += recordsMade(step, c);
            reshape(step);
        }
        return NONE;
    }

    private int recordsMade(Step step, int c) {
        if (step.kind == SPLIT) {
            return store.countOf(c);
        }
        return step.kind == JOIN ? -store.countOf(c) : 0;
    }

    private boolean canDo(Step step, int c, int records) {
        int place = draft.placeOf(step.a);
        switch (step.kind) {
            case DROP:
                return place != NONE && !draft.isOwning(place);
            case NAME:
                return place != NONE && draft.placeOf(step.b) == NONE;
            case NUMBER:
                return place == NONE && draft.size < MAX_FIELDS && formulaFits(step, kinds[c].shape);
            case RANGE:
                return draft.isNumber(place) && (step.d == 1 || draft.rangeIsWithin(place, step.b, step.c));
            case REFERENCE:
                return place == NONE && draft.size < MAX_FIELDS;
            case SPLIT:
                return step.b != c && canSplit(step, kinds[step.b].shape)
                        && records + store.countOf(c) <= MAX_RECORDS;
            case JOIN:
                return draft.isOwning(place) && draft.origins[place] != NONE
                        && canJoin(place, kinds[draft.lows[place]].shape)
                        && !someRootHolds(c, draft.origins[place]);
            default:
                return false;
        }
    }

    private boolean formulaFits(Step step, Shape old) {
        return pile.reckon(step.formula, old, null)
                && pile.lows[0] >= step.b && pile.highs[0] <= step.c;
    }

    private boolean canSplit(Step step, Shape part) {
        if (part.hasReferences() || part.nameSet() != step.c) {
            return false;
        }
        for (int i = 0; i < part.size; i++) {
            int place = draft.placeOf(part.names[i]);
            if (!draft.isNumber(place) || !draft.rangeIsWithin(place, part.lows[i], part.highs[i])) {
                return false;
            }
        }
        boolean nameIsLeft = draft.placeOf(step.a) != NONE && !isIn(step.a, step.c);
        return !nameIsLeft && draft.size - part.size < MAX_FIELDS;
    }

    private boolean canJoin(int place, Shape part) {
        if (part.hasReferences() || draft.size - 1 + part.size > MAX_FIELDS) {
            return false;
        }
        for (int i = 0; i < part.size; i++) {
            int there = draft.placeOf(part.names[i]);
            // The reference itself goes before the fields come, so one may bear its name.
            if (there != NONE && there != place) {
                return false;
            }
        }
        return true;
    }

    private boolean someRootHolds(int c, int place) {
        for (int i = 0; i < MAX_RECORDS; i++) {
            Entry entry = store.entries[i];
            if (entry.isOf(c) && isHeld(entry.values[place])) {
                return true;
            }
        }
        return false;
    }

    private boolean isHeld(int id) {
        for (int i = 0; i < ROOTS; i++) {
            if (roots[i] == id) {
                return true;
            }
        }
        return false;
    }

    private static boolean isIn(int name, int set) {
        return (set >> name & 1) == 1;
    }

    private void reshape(Step step) {
        int place = draft.placeOf(step.a);
        switch (step.kind) {
            case DROP:
                draft.removeAll(1 << step.a);
                break;
            case NAME:
                draft.rename(place, step.b);
                break;
            case NUMBER:
                draft.append(step.a, SORT_NUMBER, step.b, step.c);
                break;
            case RANGE:
                draft.setRange(place, step.b, step.c);
                break;
            case REFERENCE:
                draft.append(step.a, SORT_REFERENCE, step.b, step.b);
                break;
            case SPLIT:
                draft.removeAll(step.c);
                draft.append(step.a, SORT_OWNING, step.b, step.b);
                break;
            case JOIN:
                if (draft.isOwning(place)) {
                    Shape part = kinds[draft.lows[place]].shape;
                    draft.removeAll(1 << step.a);
                    draft.appendAll(part);
                }
                break;
            default:
                break;
        }
    }

    // Carrying a script out: the draft runs along with the values of the records.

    private void carryOut(int c, int count) {
        Kind kind = kinds[c];
        kind.shapeBefore.copyFrom(kind.shape);
        store.rememberAll(c);
        draft.startFrom(kind.shape);
        boolean revocable = true;
        for (int i = 0; i < count && i < MAX_STEPS; i++) {
            Step step = steps[i];
            if (step.kind == SPLIT || step.kind == JOIN) {
                revocable = false;
                barTakeBackOfPart(step);
            }
            moveAll(step, c);
            reshape(step);
        }
        kind.shape.copyFrom(draft);
        kind.newest++;
        kind.revocable = revocable;
    }

    /** Even without records the class that is split off or joined may not go back. */
    private void barTakeBackOfPart(Step step) {
        if (step.kind == SPLIT) {
            kinds[step.b].revocable = false;
            return;
        }
        int place = draft.placeOf(step.a);
        if (draft.isOwning(place)) {
            kinds[draft.lows[place]].revocable = false;
        }
    }

    private void moveAll(Step step, int c) {
        for (int i = 0; i < MAX_RECORDS; i++) {
            Entry entry = store.entries[i];
            if (entry.isOf(c)) {
                move(step, entry);
            }
        }
    }

    private void move(Step step, Entry entry) {
        int place = draft.placeOf(step.a);
        switch (step.kind) {
            case DROP:
                draft.squeeze(entry.values, 1 << step.a);
                break;
            case NUMBER:
                pile.reckon(step.formula, kinds[entry.kind].shapeBefore, entry.before);
                entry.put(draft.size, pile.value());
                break;
            case RANGE:
                if (place != NONE) {
                    entry.put(place, nearest(entry.values[place], step.b, step.c));
                }
                break;
            case REFERENCE:
                entry.put(draft.size, NOTHING);
                break;
            case SPLIT:
                splitOff(step, entry);
                break;
            case JOIN:
                if (draft.isOwning(place)) {
                    joinBack(step, entry, store.find(entry.values[place]));
                }
                break;
            default:
                break;
        }
    }

    private void splitOff(Step step, Entry entry) {
        Entry part = newRecord(step.b);
        if (part == null) {
            return;
        }
        Shape shape = kinds[step.b].shape;
        for (int i = 0; i < shape.size; i++) {
            int place = draft.placeOf(shape.names[i]);
            if (place != NONE) {
                part.values[i] = entry.values[place];
            }
        }
        int left = draft.squeeze(entry.values, step.c);
        entry.put(left, part.id);
    }

    private void joinBack(Step step, Entry entry, Entry part) {
        if (part == null) {
            return;
        }
        int left = draft.squeeze(entry.values, 1 << step.a);
        int size = kinds[part.kind].shape.size;
        for (int i = 0; i < size; i++) {
            entry.put(left + i, part.values[i]);
        }
        store.remove(part);
    }

    /** A class of records: its newest version, and the one before as long as it may come back. */
    private static final class Kind {
        int newest;
        boolean revocable;
        final Shape shape = new Shape();
        final Shape shapeBefore = new Shape();
    }

    /** The fields of a version in order. The range of a reference is its class, both ends. */
    private static final class Shape {
        int size;
        final int[] names = new int[MAX_FIELDS];
        final int[] sorts = new int[MAX_FIELDS];
        final int[] lows = new int[MAX_FIELDS];
        final int[] highs = new int[MAX_FIELDS];
        /** In a draft: at which place of the old version a field was, or NONE. */
        final int[] origins = new int[MAX_FIELDS];

        int placeOf(int name) {
            for (int i = 0; i < size; i++) {
                if (names[i] == name) {
                    return i;
                }
            }
            return NONE;
        }

        boolean isThere(int place) {
            return place >= 0 && place < size;
        }

        boolean isNumber(int place) {
            return isThere(place) && sorts[place] == SORT_NUMBER;
        }

        boolean isReference(int place) {
            return isThere(place) && sorts[place] != SORT_NUMBER;
        }

        boolean isOwning(int place) {
            return isThere(place) && sorts[place] == SORT_OWNING;
        }

        boolean rangeIsWithin(int place, int low, int high) {
            return isThere(place) && lows[place] >= low && highs[place] <= high;
        }

        boolean hasReferences() {
            for (int i = 0; i < size; i++) {
                if (sorts[i] != SORT_NUMBER) {
                    return true;
                }
            }
            return false;
        }

        int nameSet() {
            int set = 0;
            for (int i = 0; i < size; i++) {
                set |= 1 << names[i];
            }
            return set;
        }

        void append(int name, int sort, int low, int high) {
            if (size < MAX_FIELDS) {
                names[size] = name;
                sorts[size] = sort;
                lows[size] = low;
                highs[size] = high;
                origins[size] = NONE;
                size++;
            }
        }

        void appendAll(Shape other) {
            for (int i = 0; i < other.size; i++) {
                append(other.names[i], other.sorts[i], other.lows[i], other.highs[i]);
            }
        }

        void rename(int place, int name) {
            if (isThere(place)) {
                names[place] = name;
            }
        }

        void setRange(int place, int low, int high) {
            if (isThere(place)) {
                lows[place] = low;
                highs[place] = high;
            }
        }

        void removeAll(int set) {
            squeeze(sorts, set);
            squeeze(lows, set);
            squeeze(highs, set);
            squeeze(origins, set);
            // The names go last: by them it is known what goes.
            size = squeeze(names, set);
        }

        /** Takes out of a row what stands at the places of these names: how much is left. */
        int squeeze(int[] row, int set) {
            int left = 0;
            for (int i = 0; i < size; i++) {
                if (!isIn(names[i], set)) {
                    row[left] = row[i];
                    left++;
                }
            }
            return left;
        }

        void copyFrom(Shape other) {
            size = 0;
            appendAll(other);
        }

        void startFrom(Shape old) {
            copyFrom(old);
            for (int i = 0; i < size; i++) {
                origins[i] = i;
            }
        }
    }

    /** A record, or a free place for one. References are ids, which are never used again. */
    private static final class Entry {
        int id;
        int kind;
        int keptAs;
        boolean reached;
        final int[] values = new int[MAX_FIELDS];
        final int[] before = new int[MAX_FIELDS];

        boolean isOf(int c) {
            return id != NOTHING && kind == c;
        }

        void put(int place, int value) {
            if (place >= 0 && place < MAX_FIELDS) {
                values[place] = value;
            }
        }
    }

    private static final class Store {
        final Entry[] entries = new Entry[MAX_RECORDS];
        int count;
        int lastId = NOTHING;

        Store() {
            for (int i = 0; i < MAX_RECORDS; i++) {
                entries[i] = new Entry();
            }
        }

        Entry find(int id) {
            if (id == NOTHING) {
                return null;
            }
            return firstWithId(id);
        }

        Entry add(int c, int keptAs) {
            Entry entry = firstWithId(NOTHING);
            if (entry != null) {
                lastId++;
                count++;
                entry.id = lastId;
                entry.kind = c;
                entry.keptAs = keptAs;
            }
            return entry;
        }

        private Entry firstWithId(int id) {
            for (int i = 0; i < MAX_RECORDS; i++) {
                if (entries[i].id == id) {
                    return entries[i];
                }
            }
            return null;
        }

        void remove(Entry entry) {
            entry.id = NOTHING;
            count--;
        }

        int countOf(int c) {
            int found = 0;
            for (int i = 0; i < MAX_RECORDS; i++) {
                if (entries[i].isOf(c)) {
                    found++;
                }
            }
            return found;
        }

        int countKeptAs(int c, int version) {
            int found = 0;
            for (int i = 0; i < MAX_RECORDS; i++) {
                if (entries[i].isOf(c) && entries[i].keptAs == version) {
                    found++;
                }
            }
            return found;
        }

        void rememberAll(int c) {
            for (int i = 0; i < MAX_RECORDS; i++) {
                if (entries[i].isOf(c)) {
                    System.arraycopy(entries[i].values, 0, entries[i].before, 0, MAX_FIELDS);
                }
            }
        }
    }

    private static final class Step {
        int kind;
        int a;
        int b;
        int c;
        int d;
        final Formula formula = new Formula();

        void fill(int newKind, int newA, int newB, int newC, int newD) {
            kind = newKind;
            a = newA;
            b = newB;
            c = newC;
            d = newD;
        }
    }

    private static final class Formula {
        int size;
        final int[] words = new int[MAX_WORDS];

        void append(int w) {
            if (size < MAX_WORDS) {
                words[size] = w;
                size++;
            }
        }

        void copyFrom(Formula other) {
            System.arraycopy(other.words, 0, words, 0, MAX_WORDS);
            size = other.size;
        }

        boolean isRight() {
            int high = 0;
            for (int i = 0; i < size; i++) {
                int taken = takenBy(words[i]);
                if (high < taken) {
                    return false;
                }
                high += 1 - taken;
            }
            return high == 1;
        }

        private static int takenBy(int w) {
            if (w == NEGATE) {
                return 1;
            }
            return w >= PLUS && w < NEGATE ? 2 : 0;
        }
    }

    /** Works formulas out, by ranges or, each value being a range of its own alone, by values. */
    private static final class Pile {
        int size;
        final long[] lows = new long[MAX_WORDS];
        final long[] highs = new long[MAX_WORDS];

        /** By ranges if there is no row of values. Whether it neither trapped nor named what is no number. */
        boolean reckon(Formula formula, Shape shape, int[] row) {
            size = 0;
            boolean goesOn = true;
            for (int i = 0; i < formula.size && goesOn; i++) {
                int w = formula.words[i];
                if (w < NAMES) {
                    goesOn = layField(shape, shape.placeOf(w), row);
                } else if (w >= FIRST_LITERAL) {
                    goesOn = lay(w - LITERAL_ZERO, w - LITERAL_ZERO);
                } else {
                    goesOn = w == NEGATE ? negate() : combine(w);
                }
            }
            return goesOn && size == 1;
        }

        /** What a formula came to by values. Its range lies within that of a field, so it is an int. */
        int value() {
            return (int) lows[0];
        }

        private boolean layField(Shape shape, int place, int[] row) {
            if (!shape.isNumber(place)) {
                return false;
            }
            if (row == null) {
                return lay(shape.lows[place], shape.highs[place]);
            }
            return lay(row[place], row[place]);
        }

        private boolean lay(long low, long high) {
            if (size >= MAX_WORDS || low < -FARTHEST_RESULT || high > FARTHEST_RESULT) {
                return false;
            }
            lows[size] = low;
            highs[size] = high;
            size++;
            return true;
        }

        private boolean negate() {
            if (size < 1) {
                return false;
            }
            size--;
            return lay(-highs[size], -lows[size]);
        }

        private boolean combine(int operator) {
            if (size < 2) {
                return false;
            }
            size -= 2;
            int x = size;
            int y = size + 1;
            if (operator == DIVIDE && lows[y] <= 0 && highs[y] >= 0) {
                return false;
            }
            long least = 0;
            long greatest = 0;
            for (int pair = 0; pair < 4; pair++) {
                long left = (pair & 1) == 0 ? lows[x] : highs[x];
                long right = (pair & 2) == 0 ? lows[y] : highs[y];
                if (operator == TIMES && isTooFar(left, right)) {
                    return false;
                }
                long end = apply(operator, left, right);
                least = pair == 0 ? end : Math.min(least, end);
                greatest = pair == 0 ? end : Math.max(greatest, end);
            }
            return lay(least, greatest);
        }

        /** Asked before multiplying, for a product of two long results would not fit into a long. */
        private static boolean isTooFar(long left, long right) {
            return right != 0 && Math.abs(left) > FARTHEST_RESULT / Math.abs(right);
        }

        private static long apply(int operator, long left, long right) {
            switch (operator) {
                case PLUS:
                    return left + right;
                case MINUS:
                    return left - right;
                case TIMES:
                    return left * right;
                case DIVIDE:
                    return right == 0 ? 0 : left / right;
                case LESSER:
                    return Math.min(left, right);
                case GREATER:
                    return Math.max(left, right);
                default:
                    return 0;
            }
        }
    }
}
