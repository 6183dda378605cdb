import java.util.NoSuchElementException;

/**
 * Queries over objects that refer to each other, kept step by step.
 *
 * All rooms are made in the constructors and used again, so that no call but one that throws makes an object.
 */
public final class LiveQueries {
    public static final int NONE = -1;

    private static final int MOST_OBJECTS = 60;
    private static final int MOST_KINDS = 4;
    private static final int MOST_PARTS = 3;
    private static final int MOST_ITEMS = 8;
    private static final int MOST_TYPED = 80;
    private static final int MOST_QUERIES = 6;
    private static final int MOST_OPEN = 12;

    private final Store store;
    private final Tape tape;
    private final Reader reader;
    private final Kept[] queries;
    private int queryCount;

    public LiveQueries() {
        store = new Store();
        tape = new Tape();
        reader = new Reader(tape);
        queries = new Kept[MOST_QUERIES];
        Worker worker = new Worker(store);
        for (int q = 0; q < MOST_QUERIES; q++) {
            queries[q] = new Kept(store, worker);
        }
        queryCount = 0;
    }

    public int object(int kind) {
        int made = store.make(kind);
        if (made != NONE) {
            follow(made);
        }
        return made;
    }

    public int put(int object, int part, long v) {
        return store.setPart(object, part, v) ? follow(object) : NONE;
    }

    public int refer(int object, int to) {
        return store.setReference(object, to) ? follow(object) : NONE;
    }

    public int row(int object, int n) {
        return store.setLength(object, n) ? follow(object) : NONE;
    }

    public int item(int object, int i, long v) {
        return store.setItem(object, i, v) ? follow(object) : NONE;
    }

    public int drop(int object) {
        return store.remove(object) ? follow(object) : NONE;
    }

    public boolean type(long word, int n) {
        return tape.append(word, n);
    }

    public int query() throws IllegalStateException {
        if (queryCount >= MOST_QUERIES) {
            tape.clear();
            throw new IllegalStateException("there are six queries");
        }
        Kept next = queries[queryCount];
        int fault = reader.read(next.plan);
        tape.clear();
        if (fault != NONE) {
            return -1 - fault;
        }
        next.begin();
        queryCount++;
        return queryCount - 1;
    }

    public int size(int query, int what) {
        if (!isQuery(query)) {
            return NONE;
        }
        Kept asked = queries[query];
        switch (what) {
            case 0: return asked.shownCount();
            case 1: return asked.inCount();
            case 2: return asked.groups.count();
            default: return NONE;
        }
    }

    public int got(int query, int k) {
        return isQuery(query) ? queries[query].objectAt(k) : NONE;
    }

    public long key(int query, int k) throws NoSuchElementException {
        int object = got(query, k);
        if (object == NONE) {
            throw new NoSuchElementException("no such row");
        }
        return queries[query].keyOf(object);
    }

    public long group(int query, int k, int what) throws NoSuchElementException {
        if (!isQuery(query) || !queries[query].groups.has(k)) {
            throw new NoSuchElementException("no such group");
        }
        Groups asked = queries[query].groups;
        switch (what) {
            case 0: return asked.valueOf(k);
            case 1: return asked.rowsOf(k);
            case 2: return asked.lowOf(k);
            case 3: return asked.highOf(k);
            default: throw new NoSuchElementException("no such thing to tell of a group");
        }
    }

    public int differ(int k, int what) {
        if (k < 0) {
            return NONE;
        }
        int left = k;
        for (int q = 0; q < queryCount; q++) {
            int here = queries[q].differenceCount();
            if (left < here) {
                return tellDifference(q, left, what);
            }
            left -= here;
        }
        return NONE;
    }

    public int uses(int query, int object) {
        return isQuery(query) && store.isThere(object) ? queries[query].rowsHangingOn(object) : NONE;
    }

    public long look(int object, int what) throws NoSuchElementException {
        if (!store.isThere(object)) {
            throw new NoSuchElementException("no such object");
        }
        if (what >= 10 && store.hasItem(object, what - 10)) {
            return store.itemOf(object, what - 10);
        }
        switch (what) {
            case 0:
            case 1:
            case 2: return store.partOf(object, what);
            case 3: return store.referenceOf(object);
            case 4: return store.lengthOf(object);
            case 5: return store.kindOf(object);
            default: throw new NoSuchElementException("no such thing to tell of an object");
        }
    }

    private boolean isQuery(int query) {
        return query >= 0 && query < queryCount;
    }

    /** Brings all queries up to a change of one object: how many differences that made. */
    private int follow(int changed) {
        int differences = 0;
        for (int q = 0; q < queryCount; q++) {
            queries[q].follow(changed);
            differences += queries[q].differenceCount();
        }
        return differences;
    }

    private int tellDifference(int query, int k, int what) {
        switch (what) {
            case 0: return query;
            case 1: return queries[query].differenceObject(k);
            case 2: return queries[query].isArrival(k) ? 1 : 0;
            default: return NONE;
        }
    }

    /** The objects as they are now. */
    private static final class Store {
        private final boolean[] there = new boolean[MOST_OBJECTS];
        private final int[] kinds = new int[MOST_OBJECTS];
        private final int[] references = new int[MOST_OBJECTS];
        private final int[] lengths = new int[MOST_OBJECTS];
        private final long[] parts = new long[MOST_OBJECTS * MOST_PARTS];
        private final long[] items = new long[MOST_OBJECTS * MOST_ITEMS];
        private int made = 0;

        int make(int kind) {
            if (kind < 0 || kind >= MOST_KINDS || made >= MOST_OBJECTS) {
                return NONE;
            }
            int object = made;
            there[object] = true;
            kinds[object] = kind;
            references[object] = NONE;
            made++;
            return object;
        }

        boolean setPart(int object, int part, long v) {
            if (!isThere(object) || part < 0 || part >= MOST_PARTS) {
                return false;
            }
            parts[object * MOST_PARTS + part] = v;
            return true;
        }

        boolean setReference(int object, int to) {
            if (!isThere(object) || (to != NONE && !isThere(to))) {
                return false;
            }
            references[object] = to;
            return true;
        }

        boolean setLength(int object, int n) {
            if (!isThere(object) || n < 0 || n > MOST_ITEMS) {
                return false;
            }
            // What is cut off must not be there again when the row grows later.
            for (int i = n; i < MOST_ITEMS; i++) {
                items[object * MOST_ITEMS + i] = 0;
            }
            lengths[object] = n;
            return true;
        }

        boolean setItem(int object, int i, long v) {
            if (!hasItem(object, i)) {
                return false;
            }
            items[object * MOST_ITEMS + i] = v;
            return true;
        }

        boolean remove(int object) {
            if (!isThere(object)) {
                return false;
            }
            there[object] = false;
            lengths[object] = 0;
            // So that nobody who follows a reference has to ask whether its object is still there.
            for (int other = 0; other < made; other++) {
                if (references[other] == object) {
                    references[other] = NONE;
                }
            }
            return true;
        }

        /** How many objects ever came. */
        int madeCount() {
            return made;
        }

        boolean isThere(int object) {
            return object >= 0 && object < made && there[object];
        }

        boolean isOfKind(int object, int kind) {
            return isThere(object) && kinds[object] == kind;
        }

        boolean hasItem(int object, long i) {
            return object >= 0 && object < made && i >= 0 && i < lengths[object];
        }

        int kindOf(int object) {
            return isThere(object) ? kinds[object] : NONE;
        }

        long partOf(int object, int part) {
            boolean known = isThere(object) && part >= 0 && part < MOST_PARTS;
            return known ? parts[object * MOST_PARTS + part] : 0;
        }

        int referenceOf(int object) {
            return isThere(object) ? references[object] : NONE;
        }

        int lengthOf(int object) {
            return object >= 0 && object < made ? lengths[object] : 0;
        }

        long itemOf(int object, int i) {
            return hasItem(object, i) ? items[object * MOST_ITEMS + i] : 0;
        }
    }

    /** The characters typed since the last query. */
    private static final class Tape {
        private final char[] typed = new char[MOST_TYPED];
        private int length = 0;

        boolean append(long word, int n) {
            if (n < 1 || n > 8 || length + n > MOST_TYPED || !isPlain(word, n)) {
                return false;
            }
            for (int b = n - 1; b >= 0; b--) {
                typed[length] = byteOf(word, b);
                length++;
            }
            return true;
        }

        void clear() {
            length = 0;
        }

        private static boolean isPlain(long word, int n) {
            for (int b = 0; b < n; b++) {
                char c = byteOf(word, b);
                if (c < 33 || c > 126) {
                    return false;
                }
            }
            return true;
        }

        private static char byteOf(long word, int b) {
            return (char) ((word >>> (8 * b)) & 255);
        }
    }

    /**
     * What a query asks. Its formulas are nodes, each behind those that it needs; so working them out in a row
     * leaves out nothing. A node's operation is its character on the tape, but for the two that are named here.
     */
    private static final class Plan {
        private static final char NUMBER = '0';
        private static final char NEGATE = '_';
        private static final int NOTHING = -1;

        // Each node has a character of its own on the tape, so there are never more of them.
        private final char[] operations = new char[MOST_TYPED];
        private final int[] lefts = new int[MOST_TYPED];
        private final int[] rights = new int[MOST_TYPED];
        private int nodeCount = 0;
        private int kind = 0;
        private int limit = 0;
        private int filter = NOTHING;
        private int sort = NOTHING;
        private int group = NOTHING;
        private int sum = NOTHING;

        /** A text with a fault may have left formulas here; kind and limit every query has. */
        void clear() {
            nodeCount = 0;
            filter = NOTHING;
            sort = NOTHING;
            group = NOTHING;
            sum = NOTHING;
        }

        /** A number has its value at the left, a path how many references it follows (at the right t's place). */
        int addNode(char operation, int left, int right) {
            if (nodeCount >= MOST_TYPED) {
                return NOTHING;
            }
            operations[nodeCount] = operation;
            lefts[nodeCount] = left;
            rights[nodeCount] = right;
            nodeCount++;
            return nodeCount - 1;
        }

        /** NOTHING, if one of the two could not be read. */
        int join(char operation, int left, int right) {
            return left == NOTHING || right == NOTHING ? NOTHING : addNode(operation, left, right);
        }
    }

    /**
     * Reads a plan from the tape. Only what may stand at its place is passed, so where reading stops is the fault.
     * A reading method answers the node that it made, or NOTHING at a fault; open tells how many of ! - ( { [
     * are open around it.
     */
    private static final class Reader {
        // Behind the last character; nobody can type it.
        private static final char END = 0;

        private final Tape tape;
        private Plan plan;
        private int place = 0;

        Reader(Tape tape) {
            this.tape = tape;
        }

        /** The place of the fault, or NONE if all of the tape is a query. */
        int read(Plan into) {
            plan = into;
            plan.clear();
            place = 0;
            boolean whole = readKind() && pass(':') && readFilter() && pass(';') && readSort() && pass(';')
                && readLimit() && pass(';') && readGroup() && pass(';') && readSum() && peek() == END;
            return whole ? NONE : place;
        }

        private char peek() {
            return place < tape.length ? tape.typed[place] : END;
        }

        private boolean pass(char wanted) {
            if (peek() != wanted) {
                return false;
            }
            place++;
            return true;
        }

        private static boolean isDigit(char c) {
            return c >= '0' && c <= '9';
        }

        private boolean readKind() {
            char c = peek();
            if (c < '0' || c >= '0' + MOST_KINDS) {
                return false;
            }
            plan.kind = c - '0';
            place++;
            return true;
        }

        private boolean readFilter() {
            if (peek() == ';') {
                return true;
            }
            plan.filter = readOr(0);
            return plan.filter != Plan.NOTHING;
        }

        private boolean readSort() {
            if (peek() == ';') {
                return true;
            }
            plan.sort = readX(0);
            return plan.sort != Plan.NOTHING;
        }

        private boolean readLimit() {
            plan.limit = readDigits(2);
            return true;
        }

        private boolean readGroup() {
            if (peek() == ';') {
                return true;
            }
            plan.group = readX(0);
            return plan.group != Plan.NOTHING;
        }

        private boolean readSum() {
            if (peek() == END) {
                return true;
            }
            plan.sum = readX(0);
            return plan.sum != Plan.NOTHING;
        }

        private int readOr(int open) {
            int all = readAnd(open);
            for (int n = 0; n < MOST_TYPED && all != Plan.NOTHING && pass('|'); n++) {
                all = plan.join('|', all, readAnd(open));
            }
            return all;
        }

        private int readAnd(int open) {
            int all = readTest(open);
            for (int n = 0; n < MOST_TYPED && all != Plan.NOTHING && pass('&'); n++) {
                all = plan.join('&', all, readTest(open));
            }
            return all;
        }

        private int readTest(int open) {
            char c = peek();
            if (c != '!' && c != '{') {
                return readComparison(open);
            }
            if (open >= MOST_OPEN) {
                return Plan.NOTHING;
            }
            place++;
            if (c == '!') {
                int denied = readTest(open + 1);
                return plan.join('!', denied, denied);
            }
            int inner = readOr(open + 1);
            return inner != Plan.NOTHING && pass('}') ? inner : Plan.NOTHING;
        }

        private int readComparison(int open) {
            int left = readX(open);
            char c = peek();
            if (left == Plan.NOTHING || (c != '=' && c != '#' && c != '<' && c != '>')) {
                return Plan.NOTHING;
            }
            place++;
            return plan.join(c, left, readX(open));
        }

        private int readX(int open) {
            int all = readTerm(open);
            for (int n = 0; n < MOST_TYPED && all != Plan.NOTHING; n++) {
                char c = peek();
                if (c != '+' && c != '-') {
                    return all;
                }
                place++;
                all = plan.join(c, all, readTerm(open));
            }
            return all;
        }

        private int readTerm(int open) {
            int all = readFactor(open);
            for (int n = 0; n < MOST_TYPED && all != Plan.NOTHING; n++) {
                char c = peek();
                if (c != '*' && c != '/' && c != '%') {
                    return all;
                }
                place++;
                all = plan.join(c, all, readFactor(open));
            }
            return all;
        }

        private int readFactor(int open) {
            char c = peek();
            if (isDigit(c)) {
                return plan.addNode(Plan.NUMBER, readDigits(9), 0);
            }
            if (c != '-' && c != '(') {
                return readPath(open);
            }
            if (open >= MOST_OPEN) {
                return Plan.NOTHING;
            }
            place++;
            if (c == '-') {
                int negated = readFactor(open + 1);
                return plan.join(Plan.NEGATE, negated, negated);
            }
            int inner = readX(open + 1);
            return inner != Plan.NOTHING && pass(')') ? inner : Plan.NOTHING;
        }

        private int readPath(int open) {
            int steps = 0;
            for (int n = 0; n < MOST_TYPED && pass('r'); n++) {
                if (!pass('.')) {
                    return Plan.NOTHING;
                }
                steps++;
            }
            char c = peek();
            if (c == 't') {
                place++;
                return readItem(steps, open);
            }
            if (c != 'a' && c != 'b' && c != 'c' && c != 'n' && c != 'i') {
                return Plan.NOTHING;
            }
            place++;
            return plan.addNode(c, steps, Plan.NOTHING);
        }

        private int readItem(int steps, int open) {
            if (open >= MOST_OPEN || !pass('[')) {
                return Plan.NOTHING;
            }
            int inner = readX(open + 1);
            return inner != Plan.NOTHING && pass(']') ? plan.addNode('t', steps, inner) : Plan.NOTHING;
        }

        /** The number that up to so many digits tell; one more stays, and is the fault of who goes on. */
        private int readDigits(int most) {
            int number = 0;
            for (int n = 0; n < most && isDigit(peek()); n++) {
                number = number * 10 + (peek() - '0');
                place++;
            }
            return number;
        }
    }

    /** Works out a plan's formulas for one row, and notes what was looked at for that. */
    private static final class Worker {
        private final Store store;
        private final long[] values = new long[MOST_TYPED];
        private final boolean[] absent = new boolean[MOST_TYPED];
        private long seen = 0;
        private boolean anyAbsent = false;

        Worker(Store store) {
            this.store = store;
        }

        void work(Plan plan, int row) {
            seen = 0;
            anyAbsent = false;
            for (int n = 0; n < plan.nodeCount && n < MOST_TYPED; n++) {
                int left = plan.lefts[n];
                int right = plan.rights[n];
                absent[n] = false;
                switch (plan.operations[n]) {
                    case Plan.NUMBER:
                        values[n] = left;
                        break;
                    case 'a':
                    case 'b':
                    case 'c':
                    case 'n':
                    case 'i':
                        values[n] = workField(plan.operations[n], walk(row, left), n);
                        break;
                    case 't':
                        values[n] = workItem(walk(row, left), right, n);
                        break;
                    default:
                        values[n] = workPair(plan.operations[n], left, right, n);
                }
                anyAbsent = anyAbsent || absent[n];
            }
        }

        /** The objects that were looked at, a bit each. */
        long seen() {
            return seen;
        }

        boolean isAnyAbsent() {
            return anyAbsent;
        }

        long valueOr(int node, long withoutIt) {
            return isNode(node) ? values[node] : withoutIt;
        }

        private static boolean isNode(int node) {
            return node >= 0 && node < MOST_TYPED;
        }

        /** Where so many references lead to; of each object on the way its r is looked at, of the last one nothing. */
        private int walk(int row, int steps) {
            int object = row;
            for (int s = 0; s < steps && object != NONE; s++) {
                note(object);
                object = store.referenceOf(object);
            }
            return object;
        }

        private void note(int object) {
            seen |= 1L << object;
        }

        private long missing(int n) {
            absent[n] = true;
            return 0;
        }

        private long workField(char field, int object, int n) {
            if (object == NONE) {
                return missing(n);
            }
            note(object);
            switch (field) {
                case 'n': return store.lengthOf(object);
                case 'i': return object;
                default: return store.partOf(object, field - 'a');
            }
        }

        private long workItem(int object, int placeNode, int n) {
            if (object == NONE) {
                return missing(n);
            }
            // All is worked out, also what would not count any more: t is looked at even without a place in it.
            note(object);
            if (!isNode(placeNode) || absent[placeNode]) {
                return missing(n);
            }
            long place = values[placeNode];
            return store.hasItem(object, place) ? store.itemOf(object, (int) place) : missing(n);
        }

        private long workPair(char operation, int left, int right, int n) {
            if (!isNode(left) || !isNode(right) || absent[left] || absent[right]) {
                return missing(n);
            }
            long x = values[left];
            long y = values[right];
            switch (operation) {
                case '+': return x + y;
                case '-': return x - y;
                case '*': return x * y;
                case '/': return y == 0 ? missing(n) : x / y;
                case '%': return y == 0 ? missing(n) : x % y;
                case Plan.NEGATE: return -x;
                default: return holds(operation, x, y) ? 1 : 0;
            }
        }

        private static boolean holds(char operation, long x, long y) {
            switch (operation) {
                case '=': return x == y;
                case '#': return x != y;
                case '<': return x < y;
                case '>': return x > y;
                case '&': return x != 0 && y != 0;
                case '|': return x != 0 || y != 0;
                default: return x == 0;
            }
        }
    }

    /** A query and what it tells now. */
    private static final class Kept {
        private final Plan plan = new Plan();
        private final Groups groups = new Groups();
        private final Store store;
        private final Worker worker;
        // By objects:
        private final long[] hangs = new long[MOST_OBJECTS];
        private final boolean[] in = new boolean[MOST_OBJECTS];
        private final long[] keys = new long[MOST_OBJECTS];
        private final long[] groupValues = new long[MOST_OBJECTS];
        private final long[] amounts = new long[MOST_OBJECTS];
        // The objects whose rows are in, by keys:
        private final int[] order = new int[MOST_OBJECTS];
        private int orderCount = 0;
        // Objects, a bit each:
        private long shown = 0;
        private long went = 0;
        private long came = 0;

        Kept(Store store, Worker worker) {
            this.store = store;
            this.worker = worker;
        }

        /** Works out all rows of a plan that was read just now; that makes no differences. */
        void begin() {
            for (int object = 0; object < store.madeCount(); object++) {
                renew(object);
            }
            shown = showFirst();
        }

        void follow(int changed) {
            // The changed one itself may come or go as a row that hangs on nothing.
            for (int object = 0; object < store.madeCount(); object++) {
                if (object == changed || hangsOn(object, changed)) {
                    renew(object);
                }
            }
            long before = shown;
            shown = showFirst();
            went = before & ~shown;
            came = shown & ~before;
        }

        int inCount() {
            return orderCount;
        }

        int shownCount() {
            return plan.limit == 0 ? orderCount : Math.min(plan.limit, orderCount);
        }

        int objectAt(int k) {
            return k >= 0 && k < orderCount ? order[k] : NONE;
        }

        long keyOf(int object) {
            return object >= 0 && object < MOST_OBJECTS ? keys[object] : 0;
        }

        int rowsHangingOn(int used) {
            int rows = 0;
            for (int object = 0; object < store.madeCount(); object++) {
                if (hangsOn(object, used)) {
                    rows++;
                }
            }
            return rows;
        }

        int differenceCount() {
            return Long.bitCount(went) + Long.bitCount(came);
        }

        boolean isArrival(int k) {
            return k >= Long.bitCount(went);
        }

        int differenceObject(int k) {
            return isArrival(k) ? bitAt(came, k - Long.bitCount(went)) : bitAt(went, k);
        }

        private static int bitAt(long bits, int k) {
            int left = k;
            for (int object = 0; object < MOST_OBJECTS; object++) {
                if ((bits >>> object & 1) != 0) {
                    if (left == 0) {
                        return object;
                    }
                    left--;
                }
            }
            return NONE;
        }

        private boolean hangsOn(int object, int used) {
            return (hangs[object] >>> used & 1) != 0;
        }

        private long showFirst() {
            long first = 0;
            for (int k = 0; k < shownCount(); k++) {
                first |= 1L << order[k];
            }
            return first;
        }

        private void renew(int object) {
            // With the old key and group, by which it is found there.
            if (in[object]) {
                takeOut(object);
            }
            if (!store.isOfKind(object, plan.kind)) {
                hangs[object] = 0;
                return;
            }
            worker.work(plan, object);
            hangs[object] = worker.seen();
            if (!worker.isAnyAbsent() && worker.valueOr(plan.filter, 1) != 0) {
                keys[object] = worker.valueOr(plan.sort, 0);
                groupValues[object] = worker.valueOr(plan.group, 0);
                amounts[object] = worker.valueOr(plan.sum, 1);
                bringIn(object);
            }
        }

        private void bringIn(int object) {
            if (orderCount >= MOST_OBJECTS) {
                return;
            }
            int k = orderCount;
            for (; k > 0 && isBefore(object, order[k - 1]); k--) {
                order[k] = order[k - 1];
            }
            order[k] = object;
            orderCount++;
            in[object] = true;
            groups.add(groupValues[object], amounts[object]);
        }

        private void takeOut(int object) {
            int kept = 0;
            for (int k = 0; k < orderCount; k++) {
                if (order[k] != object) {
                    order[kept] = order[k];
                    kept++;
                }
            }
            orderCount = kept;
            in[object] = false;
            groups.subtract(groupValues[object], amounts[object]);
        }

        private boolean isBefore(int one, int other) {
            return keys[one] != keys[other] ? keys[one] < keys[other] : one < other;
        }
    }

    /** Groups by values, with sums of 128 bits. */
    private static final class Groups {
        private static final long SIGN = 1L << 63;

        private final long[] values = new long[MOST_OBJECTS];
        private final int[] rows = new int[MOST_OBJECTS];
        private final long[] lows = new long[MOST_OBJECTS];
        private final long[] highs = new long[MOST_OBJECTS];
        private int count = 0;

        int count() {
            return count;
        }

        boolean has(int k) {
            return k >= 0 && k < count;
        }

        long valueOf(int k) {
            return has(k) ? values[k] : 0;
        }

        long rowsOf(int k) {
            return has(k) ? rows[k] : 0;
        }

        long lowOf(int k) {
            return has(k) ? lows[k] : 0;
        }

        long highOf(int k) {
            return has(k) ? highs[k] : 0;
        }

        void add(long value, long amount) {
            int k = placeOf(value);
            if (!has(k) || values[k] != value) {
                if (count >= MOST_OBJECTS) {
                    return;
                }
                open(k, value);
            }
            long low = lows[k] + amount;
            highs[k] += signOf(amount) + (isLessUnsigned(low, amount) ? 1 : 0);
            lows[k] = low;
            rows[k]++;
        }

        void subtract(long value, long amount) {
            int k = placeOf(value);
            if (!has(k) || values[k] != value) {
                return;
            }
            highs[k] -= signOf(amount) + (isLessUnsigned(lows[k], amount) ? 1 : 0);
            lows[k] -= amount;
            rows[k]--;
            if (rows[k] == 0) {
                close(k);
            }
        }

        /** The place of the first group whose value is not less. */
        private int placeOf(long value) {
            for (int k = 0; k < count; k++) {
                if (values[k] >= value) {
                    return k;
                }
            }
            return count;
        }

        private void open(int k, long value) {
            for (int j = count; j > k; j--) {
                copy(j - 1, j);
            }
            values[k] = value;
            rows[k] = 0;
            lows[k] = 0;
            highs[k] = 0;
            count++;
        }

        private void close(int k) {
            for (int j = k + 1; j < count; j++) {
                copy(j, j - 1);
            }
            count--;
        }

        private void copy(int from, int to) {
            values[to] = values[from];
            rows[to] = rows[from];
            lows[to] = lows[from];
            highs[to] = highs[from];
        }

        /** The upper 64 bits of a long taken as a number of 128 bits. */
        private static long signOf(long amount) {
            return amount < 0 ? -1 : 0;
        }

        private static boolean isLessUnsigned(long x, long y) {
            return (x ^ SIGN) < (y ^ SIGN);
        }
    }
}
