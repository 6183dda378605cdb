import java.util.NoSuchElementException;
import java.util.Random;
import java.util.function.LongSupplier;

/** Long runs of calls, each answer against the model's; the runs are the same every time. */
public final class ModelTest {
    private static final int RUNS = 600;
    private static final int CALLS = 512;
    // A text that is typed in words of one character, and query().
    private static final int CALLS_OF_A_TEXT = 81;
    private static final int TEXTS = 100000;

    private final Random random;
    private final LiveQueries x = new LiveQueries();
    private final Model model = new Model();
    private final StringBuilder log = new StringBuilder();
    private int calls = 0;
    private int objects = 0;
    private int queries = 0;

    private ModelTest(long seed) {
        random = new Random(seed);
    }

    public static void main(String[] args) {
        int answers = 0;
        for (int seed = 0; seed < RUNS; seed++) {
            ModelTest run = new ModelTest(seed);
            while (run.calls < CALLS) {
                if (!run.step()) {
                    System.out.println("run " + seed + ":\n" + run.log);
                    System.exit(1);
                }
            }
            answers += run.calls;
        }
        System.out.println(answers + " answers as the model's, in " + RUNS + " runs");
        texts();
    }

    /** Faults alone, of many more texts than runs can hold. */
    private static void texts() {
        ModelTest maker = new ModelTest(-1);
        int good = 0;
        for (int n = 0; n < TEXTS; n++) {
            String text = maker.text();
            int want = Model.faultOf(text);
            int got = Checks.ask(new LiveQueries(), text);
            if (got != (want < 0 ? 0 : -1 - want)) {
                System.out.println(text + " answered " + got + ", the model's fault is " + want);
                System.exit(1);
            }
            good += want < 0 ? 1 : 0;
        }
        System.out.println(TEXTS + " texts as the model's, " + good + " of them queries");
    }

    // Texts

    private boolean chance(int percent) {
        return random.nextInt(100) < percent;
    }

    private String pick(String... some) {
        return some[random.nextInt(some.length)];
    }

    private String formula(int depth) {
        int form = depth <= 0 ? random.nextInt(4) : random.nextInt(10);
        switch (form) {
            case 0: return pick("0", "1", "2", "3", "7", "999999999");
            case 1: return pick("a", "b", "c", "n", "i");
            case 2: return pick("r.", "r.r.", "r.r.r.") + pick("a", "b", "c", "n", "i");
            case 3: return pick("", "r.", "r.r.") + "t[" + pick("0", "1", "a", "n-1", "2") + "]";
            case 4: return pick("", "r.", "r.r.") + "t[" + formula(depth - 1) + "]";
            case 5: return "-" + formula(0);
            case 6: return "(" + formula(depth - 1) + ")";
            default: return formula(depth - 1) + pick("+", "-", "*", "/", "%") + formula(depth - 1);
        }
    }

    private String filter(int depth) {
        int form = depth <= 0 ? 0 : random.nextInt(6);
        switch (form) {
            case 1: return "!" + filter(0);
            case 2: return "{" + filter(depth - 1) + "}";
            case 3: return filter(depth - 1) + "|" + filter(depth - 1);
            case 4: return filter(depth - 1) + "&" + filter(depth - 1);
            default: return formula(depth) + pick("=", "#", "<", ">") + formula(depth - 1);
        }
    }

    private String maybe(String text) {
        return chance(50) ? text : "";
    }

    private String plain() {
        return random.nextInt(chance(80) ? 2 : 4) + ":" + maybe(filter(2)) + ";" + maybe(formula(2)) + ";"
            + pick("", "", "0", "1", "2", "3", "5", "12") + ";" + maybe(formula(1)) + ";" + maybe(formula(2));
    }

    private String text() {
        String text = plain();
        while (text.length() > 80) {
            text = plain();
        }
        int changes = chance(70) ? 0 : 1 + random.nextInt(2);
        for (int n = 0; n < changes; n++) {
            text = spoil(text);
        }
        return text;
    }

    private String spoil(String text) {
        int p = random.nextInt(text.length() + 1);
        String some = pick("!", "-", "(", "{", "[", ")", "}", "]", "a", "r", "r.", "t", "t[", "5", "1234567890", ";",
            "=", "&", "|", "+", "--------------", "((((((((((((", "t[t[t[t[t[t[t[t[t[t[t[", "!!!!!!!!!!!!!",
            "{{{{{{{{{{{", "~", "99", ".");
        int end = chance(50) ? p : Math.min(text.length(), p + 1 + random.nextInt(3));
        String spoiled = chance(15) ? text.substring(0, p) : text.substring(0, p) + some + text.substring(end);
        return spoiled.length() > 80 ? spoiled.substring(0, 80) : spoiled;
    }

    // Calls

    /** An argument that is mostly a wrong one. */
    private int wild(int most) {
        switch (random.nextInt(4)) {
            case 0: return random.nextInt();
            case 1: return chance(50) ? Integer.MIN_VALUE : Integer.MAX_VALUE;
            case 2: return -1;
            default: return random.nextInt(most + 2);
        }
    }

    private int anyObject() {
        return chance(3) ? wild(64) : random.nextInt(Math.max(1, objects));
    }

    private int anyQuery() {
        return chance(3) ? wild(9) : random.nextInt(Math.max(1, queries));
    }

    private int small(int most) {
        return chance(2) ? wild(most) : random.nextInt(most + 1);
    }

    private long anyLong() {
        switch (random.nextInt(8)) {
            case 0: return random.nextLong();
            case 1: return chance(50) ? Long.MIN_VALUE : Long.MAX_VALUE;
            case 2: return -random.nextInt(4);
            default: return random.nextInt(4);
        }
    }

    private boolean alike(String call, LongSupplier got, LongSupplier want) {
        calls++;
        String mine = answer(got);
        String due = answer(want);
        log.append(call).append(" answered ").append(mine).append('\n');
        if (!mine.equals(due)) {
            log.append("due is ").append(due).append('\n');
            return false;
        }
        return true;
    }

    private static String answer(LongSupplier call) {
        try {
            return Long.toString(call.getAsLong());
        } catch (IllegalStateException | NoSuchElementException e) {
            return e.getClass().getSimpleName();
        }
    }

    private boolean typed(long word, int n) {
        return alike("type(" + word + ", " + n + ")", () -> x.type(word, n) ? 1 : 0, () -> model.type(word, n) ? 1 : 0);
    }

    private boolean asked(String text) {
        log.append(text).append(":\n");
        for (int p = 0; p < text.length();) {
            String part = text.substring(p, Math.min(text.length(), p + 1 + random.nextInt(8)));
            if (!typed(Checks.word(part) | (part.length() < 8 ? random.nextLong() << 8 * part.length() : 0),
                part.length())) {
                return false;
            }
            p += part.length();
        }
        return alike("query()", () -> {
            int number = x.query();
            queries = Math.max(queries, number + 1);
            return number;
        }, () -> model.query());
    }

    private boolean step() {
        int form = random.nextInt(100);
        if (form < 8) {
            int kind = chance(5) ? small(5) : chance(80) ? random.nextInt(2) : random.nextInt(4);
            return alike("object(" + kind + ")", () -> {
                int made = x.object(kind);
                objects = Math.max(objects, made + 1);
                return made;
            }, () -> model.object(kind));
        }
        if (form < 12 && calls + CALLS_OF_A_TEXT <= CALLS) {
            return chance(95) ? asked(text()) : typed(random.nextLong(), small(9));
        }
        return form < 60 ? change() : question();
    }

    private boolean change() {
        int o = anyObject();
        int k = small(chance(90) ? 2 : 8);
        long v = anyLong();
        switch (random.nextInt(16)) {
            case 0:
                return !chance(30) || alike("drop(" + o + ")", () -> x.drop(o), () -> model.drop(o));
            case 1:
            case 2: {
                int n = small(8);
                return alike("row(" + o + ", " + n + ")", () -> x.row(o, n), () -> model.row(o, n));
            }
            case 3:
            case 4:
            case 5: {
                return alike("item(" + o + ", " + k + ", " + v + ")", () -> x.item(o, k, v), () -> model.item(o, k, v));
            }
            case 6:
            case 7:
            case 8:
            case 9: {
                int to = chance(10) ? -1 : anyObject();
                return alike("refer(" + o + ", " + to + ")", () -> x.refer(o, to), () -> model.refer(o, to));
            }
            default:
                return alike("put(" + o + ", " + k + ", " + v + ")", () -> x.put(o, k, v), () -> model.put(o, k, v));
        }
    }

    private boolean question() {
        int q = anyQuery();
        int o = anyObject();
        int k = small(chance(80) ? 4 : 60);
        int what = small(3);
        switch (random.nextInt(8)) {
            case 0:
                return alike("size(" + q + ", " + what + ")", () -> x.size(q, what), () -> model.size(q, what));
            case 1:
                return alike("got(" + q + ", " + k + ")", () -> x.got(q, k), () -> model.got(q, k));
            case 2:
                return alike("key(" + q + ", " + k + ")", () -> x.key(q, k), () -> model.key(q, k));
            case 3:
            case 4: {
                int w = small(4);
                return alike("group(" + q + ", " + k + ", " + w + ")", () -> x.group(q, k, w),
                    () -> model.group(q, k, w));
            }
            case 5:
                return alike("differ(" + k + ", " + what + ")", () -> x.differ(k, what), () -> model.differ(k, what));
            case 6:
                return alike("uses(" + q + ", " + o + ")", () -> x.uses(q, o), () -> model.uses(q, o));
            default: {
                int w = small(19);
                return alike("look(" + o + ", " + w + ")", () -> x.look(o, w), () -> model.look(o, w));
            }
        }
    }
}
