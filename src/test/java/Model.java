import java.math.BigInteger;
import java.util.ArrayDeque;
import java.util.ArrayList;
import java.util.Deque;
import java.util.List;
import java.util.NoSuchElementException;
import java.util.Set;
import java.util.TreeMap;
import java.util.TreeSet;

/**
 * The document once more, written plainly and otherwise than LiveQueries: queries are worked out from their texts,
 * all of them anew whenever one is asked, and faults are found by a machine with a stack, character by character.
 */
final class Model {
    private static final int NONE = -1;

    private static final class Thing {
        final int number;
        final int kind;
        final long[] parts = new long[3];
        long[] row = new long[0];
        Thing to = null;
        boolean dropped = false;

        Thing(int number, int kind) {
            this.number = number;
            this.kind = kind;
        }

        Thing reference() {
            return to == null || to.dropped ? null : to;
        }
    }

    private static final class Row {
        Thing thing;
        boolean in;
        long key;
        long group;
        long sum;
        final Set<Integer> hangs = new TreeSet<>();
    }

    private final List<Thing> things = new ArrayList<>();
    private final List<String> queries = new ArrayList<>();
    private final List<int[]> differences = new ArrayList<>();
    private String tape = "";

    // Changes

    private Thing find(int object) {
        boolean there = object >= 0 && object < things.size() && !things.get(object).dropped;
        return there ? things.get(object) : null;
    }

    private List<List<Integer>> allShown() {
        List<List<Integer>> all = new ArrayList<>();
        for (int q = 0; q < queries.size(); q++) {
            List<Integer> shown = new ArrayList<>();
            for (int k = 0; k < size(q, 0); k++) {
                shown.add(got(q, k));
            }
            shown.sort(null);
            all.add(shown);
        }
        return all;
    }

    private int change(Runnable change) {
        List<List<Integer>> before = allShown();
        change.run();
        List<List<Integer>> after = allShown();
        differences.clear();
        for (int q = 0; q < queries.size(); q++) {
            for (int o : before.get(q)) {
                if (!after.get(q).contains(o)) {
                    differences.add(new int[] {q, o, 0});
                }
            }
            for (int o : after.get(q)) {
                if (!before.get(q).contains(o)) {
                    differences.add(new int[] {q, o, 1});
                }
            }
        }
        return differences.size();
    }

    int object(int kind) {
        if (kind < 0 || kind > 3 || things.size() == 60) {
            return NONE;
        }
        change(() -> things.add(new Thing(things.size(), kind)));
        return things.size() - 1;
    }

    int put(int object, int part, long v) {
        Thing thing = find(object);
        return thing == null || part < 0 || part > 2 ? NONE : change(() -> thing.parts[part] = v);
    }

    int refer(int object, int to) {
        Thing thing = find(object);
        if (thing == null || (to != NONE && find(to) == null)) {
            return NONE;
        }
        return change(() -> thing.to = find(to));
    }

    int row(int object, int n) {
        Thing thing = find(object);
        if (thing == null || n < 0 || n > 8) {
            return NONE;
        }
        return change(() -> thing.row = java.util.Arrays.copyOf(thing.row, n));
    }

    int item(int object, int i, long v) {
        Thing thing = find(object);
        return thing == null || i < 0 || i >= thing.row.length ? NONE : change(() -> thing.row[i] = v);
    }

    int drop(int object) {
        Thing thing = find(object);
        return thing == null ? NONE : change(() -> thing.dropped = true);
    }

    // The tape

    boolean type(long word, int n) {
        if (n < 1 || n > 8) {
            return false;
        }
        byte[] bytes = java.nio.ByteBuffer.allocate(8).putLong(word).array();
        String text = "";
        for (int i = 8 - n; i < 8; i++) {
            if (bytes[i] < 33 || bytes[i] > 126) {
                return false;
            }
            text += (char) bytes[i];
        }
        if (tape.length() + n > 80) {
            return false;
        }
        tape += text;
        return true;
    }

    int query() {
        String text = tape;
        tape = "";
        if (queries.size() == 6) {
            throw new IllegalStateException();
        }
        int fault = faultOf(text);
        if (fault >= 0) {
            return -1 - fault;
        }
        queries.add(text);
        return queries.size() - 1;
    }

    /** -1 without a fault. The stack holds what is open: ! - ( { [ and L, R for the left and right X of a test. */
    static int faultOf(String text) {
        int end = text.length();
        if (end == 0 || "0123".indexOf(text.charAt(0)) < 0) {
            return 0;
        }
        if (end == 1 || text.charAt(1) != ':') {
            return 1;
        }
        int section = 0;
        int digits = 0;
        Deque<Character> stack = new ArrayDeque<>();
        String mode = "fresh";
        for (int p = 2; p < end; p++) {
            char c = text.charAt(p);
            if (mode.equals("fresh") && c == ';' && section < 4) {
                section++;
                digits = 0;
                continue;
            }
            if (section == 2) {
                if (!Character.isDigit(c) || ++digits > 2) {
                    return p;
                }
                continue;
            }
            if (mode.equals("fresh")) {
                mode = section == 0 ? "test" : "factor";
            }
            if (mode.equals("number")) {
                if (Character.isDigit(c) && ++digits <= 9) {
                    continue;
                }
                mode = "behind";
            }
            if (mode.equals("test")) {
                if (c == '!' || c == '{') {
                    if (opened(stack) == 12) {
                        return p;
                    }
                    stack.push(c);
                    continue;
                }
                stack.push('L');
                mode = "factor";
            }
            switch (mode) {
                case "factor": {
                    if (c == '-' || c == '(') {
                        if (opened(stack) == 12) {
                            return p;
                        }
                        stack.push(c);
                        continue;
                    }
                    if (Character.isDigit(c)) {
                        mode = "number";
                        digits = 1;
                        continue;
                    }
                }
                // A path may begin here, too.
                // fall through
                case "path": {
                    if ("abcni".indexOf(c) >= 0) {
                        mode = "behind";
                    } else if (c == 'r') {
                        mode = "dot";
                    } else if (c == 't') {
                        mode = "bracket";
                    } else {
                        return p;
                    }
                    continue;
                }
                case "dot": {
                    if (c != '.') {
                        return p;
                    }
                    mode = "path";
                    continue;
                }
                case "bracket": {
                    if (c != '[' || opened(stack) == 12) {
                        return p;
                    }
                    stack.push('[');
                    mode = "factor";
                    continue;
                }
                case "behind": {
                    popAll(stack, '-');
                    char top = stack.isEmpty() ? ' ' : stack.peek();
                    if ("+-*/%".indexOf(c) >= 0) {
                        mode = "factor";
                        continue;
                    }
                    if ((c == ')' && top == '(') || (c == ']' && top == '[')) {
                        stack.pop();
                        continue;
                    }
                    if (top == 'L' && "=#<>".indexOf(c) >= 0) {
                        stack.pop();
                        stack.push('R');
                        mode = "factor";
                        continue;
                    }
                    if (top == 'R') {
                        stack.pop();
                        popAll(stack, '!');
                        mode = "tested";
                    } else if (top != ' ' || c != ';' || section == 4) {
                        return p;
                    }
                }
                // fall through
                default: {
                    if (mode.equals("tested")) {
                        if (c == '&' || c == '|') {
                            mode = "test";
                            continue;
                        }
                        if (c == '}' && !stack.isEmpty() && stack.peek() == '{') {
                            stack.pop();
                            popAll(stack, '!');
                            continue;
                        }
                        if (c != ';' || !stack.isEmpty()) {
                            return p;
                        }
                    }
                    section++;
                    digits = 0;
                    mode = "fresh";
                }
            }
        }
        popAll(stack, '-');
        boolean whole = section == 4 && stack.isEmpty()
            && (mode.equals("fresh") || mode.equals("number") || mode.equals("behind"));
        return whole ? -1 : end;
    }

    private static long opened(Deque<Character> stack) {
        return stack.stream().filter(c -> c != 'L' && c != 'R').count();
    }

    private static void popAll(Deque<Character> stack, char c) {
        while (!stack.isEmpty() && stack.peek() == c) {
            stack.pop();
        }
    }

    // Working out

    /** Works out one good text; null is ABSENT. */
    private static final class Sheet {
        final String text;
        final Row row;
        int p;
        boolean absent = false;

        Sheet(String text, Row row) {
            this.text = text;
            this.row = row;
        }

        char now() {
            return p < text.length() ? text.charAt(p) : ';';
        }

        Long noted(Long v) {
            absent |= v == null;
            return v;
        }

        Long or() {
            Long v = and();
            while (now() == '|') {
                p++;
                Long w = and();
                v = v == null || w == null ? null : Long.valueOf(v | w);
            }
            return v;
        }

        Long and() {
            Long v = test();
            while (now() == '&') {
                p++;
                Long w = test();
                v = v == null || w == null ? null : Long.valueOf(v & w);
            }
            return v;
        }

        Long test() {
            if (now() == '!') {
                p++;
                Long v = test();
                return v == null ? null : Long.valueOf(1 - v);
            }
            if (now() == '{') {
                p++;
                Long v = or();
                p++;
                return v;
            }
            Long v = x();
            char c = now();
            p++;
            Long w = x();
            if (v == null || w == null) {
                return null;
            }
            int order = v.compareTo(w);
            boolean holds = c == '=' ? order == 0 : c == '#' ? order != 0 : c == '<' ? order < 0 : order > 0;
            return holds ? 1L : 0L;
        }

        Long x() {
            Long v = term();
            while (now() == '+' || now() == '-') {
                char c = now();
                p++;
                v = pair(c, v, term());
            }
            return noted(v);
        }

        Long term() {
            Long v = factor();
            while (now() == '*' || now() == '/' || now() == '%') {
                char c = now();
                p++;
                v = pair(c, v, factor());
            }
            return v;
        }

        static Long pair(char c, Long v, Long w) {
            if (v == null || w == null || ((c == '/' || c == '%') && w == 0)) {
                return null;
            }
            BigInteger a = BigInteger.valueOf(v);
            BigInteger b = BigInteger.valueOf(w);
            switch (c) {
                case '+': return a.add(b).longValue();
                case '-': return a.subtract(b).longValue();
                case '*': return a.multiply(b).longValue();
                case '/': return a.divide(b).longValue();
                default: return a.remainder(b).longValue();
            }
        }

        Long factor() {
            if (now() == '-') {
                p++;
                return pair('-', 0L, factor());
            }
            if (now() == '(') {
                p++;
                Long v = x();
                p++;
                return v;
            }
            if (Character.isDigit(now())) {
                int from = p;
                while (Character.isDigit(now())) {
                    p++;
                }
                return Long.parseLong(text.substring(from, p));
            }
            return path();
        }

        Long path() {
            Thing thing = row.thing;
            while (now() == 'r') {
                p += 2;
                if (thing != null) {
                    row.hangs.add(thing.number);
                    thing = thing.reference();
                }
            }
            char c = now();
            p++;
            Long place = 0L;
            if (c == 't') {
                p++;
                place = x();
                p++;
            }
            if (thing == null) {
                return null;
            }
            row.hangs.add(thing.number);
            if (place == null) {
                return null;
            }
            switch (c) {
                case 'n': return (long) thing.row.length;
                case 'i': return (long) thing.number;
                case 't': return place < 0 || place >= thing.row.length ? null : thing.row[place.intValue()];
                default: return thing.parts[c - 'a'];
            }
        }
    }

    private List<Row> rows(int query) {
        String text = queries.get(query);
        String[] sections = text.substring(2).split(";", -1);
        List<Row> all = new ArrayList<>();
        for (Thing thing : things) {
            if (thing.dropped || thing.kind != text.charAt(0) - '0') {
                continue;
            }
            Row row = new Row();
            row.thing = thing;
            boolean absent = false;
            long[] values = {1, 0, 0, 0, 1};
            for (int s = 0; s < 5; s++) {
                if (s != 2 && !sections[s].isEmpty()) {
                    Sheet sheet = new Sheet(sections[s], row);
                    Long v = s == 0 ? sheet.or() : sheet.x();
                    absent |= v == null || sheet.absent;
                    values[s] = v == null ? 0 : v;
                }
            }
            row.in = !absent && values[0] == 1;
            row.key = values[1];
            row.group = values[3];
            row.sum = values[4];
            all.add(row);
        }
        return all;
    }

    private List<Row> in(int query) {
        List<Row> in = rows(query);
        in.removeIf(row -> !row.in);
        in.sort((v, w) -> v.key != w.key ? Long.compare(v.key, w.key) : v.thing.number - w.thing.number);
        return in;
    }

    private TreeMap<Long, List<Row>> groups(int query) {
        TreeMap<Long, List<Row>> groups = new TreeMap<>();
        for (Row row : in(query)) {
            groups.computeIfAbsent(row.group, g -> new ArrayList<>()).add(row);
        }
        return groups;
    }

    // Answers

    private boolean isQuery(int query) {
        return query >= 0 && query < queries.size();
    }

    int size(int query, int what) {
        if (!isQuery(query) || what < 0 || what > 2) {
            return NONE;
        }
        if (what == 2) {
            return groups(query).size();
        }
        int in = in(query).size();
        String n = queries.get(query).split(";", -1)[2];
        int most = n.isEmpty() ? 0 : Integer.parseInt(n);
        return what == 1 || most == 0 ? in : Math.min(in, most);
    }

    int got(int query, int k) {
        return isQuery(query) && k >= 0 && k < in(query).size() ? in(query).get(k).thing.number : NONE;
    }

    long key(int query, int k) {
        if (got(query, k) == NONE) {
            throw new NoSuchElementException();
        }
        return in(query).get(k).key;
    }

    long group(int query, int k, int what) {
        if (!isQuery(query) || k < 0 || k >= groups(query).size() || what < 0 || what > 3) {
            throw new NoSuchElementException();
        }
        long value = new ArrayList<>(groups(query).keySet()).get(k);
        List<Row> rows = groups(query).get(value);
        BigInteger sum = BigInteger.ZERO;
        for (Row row : rows) {
            sum = sum.add(BigInteger.valueOf(row.sum));
        }
        return new long[] {value, rows.size(), sum.longValue(), sum.shiftRight(64).longValue()}[what];
    }

    int differ(int k, int what) {
        boolean there = k >= 0 && k < differences.size() && what >= 0 && what <= 2;
        return there ? differences.get(k)[what] : NONE;
    }

    int uses(int query, int object) {
        if (!isQuery(query) || find(object) == null) {
            return NONE;
        }
        return (int) rows(query).stream().filter(row -> row.hangs.contains(object)).count();
    }

    long look(int object, int what) {
        Thing thing = find(object);
        if (thing == null || what < 0 || (what > 5 && what < 10) || what - 10 >= thing.row.length) {
            throw new NoSuchElementException();
        }
        if (what >= 10) {
            return thing.row[what - 10];
        }
        int to = thing.reference() == null ? NONE : thing.reference().number;
        return what < 3 ? thing.parts[what] : what == 3 ? to : what == 4 ? thing.row.length : thing.kind;
    }
}
