import java.math.BigInteger;

/** Each sentence on ROWS and what a QUERY tells that names an edge has a test here: Terms, promises 10 to 13 and 15. */
public final class EdgesOfRowsTest {
    private static final int NONE = LiveQueries.NONE;
    private static final long LEAST = Long.MIN_VALUE;
    private static final long MOST = Long.MAX_VALUE;
    private static final String[] SECTIONS = {"0:X=X;;;;", "0:X#X|1=1;;;;", "0:1=1|X=1;;;;", "0:!X=1;;;;",
        "0:{1=2&1>X}|1=1;;;;", "0:1<2&{X<1|1=1};;;;", "0:;X;;;", "0:;;;X;", "0:;;;;X"};
    private static final Checks checks = new Checks();

    public static void main(String[] args) {
        whoseRowItIs();
        wrap();
        absent();
        allIsWorkedOut();
        in();
        key();
        hangs();
        order();
        shown();
        groups();
        sums();
        promises();
        checks.end();
    }

    private static void says(String sentence) {
        checks.says(sentence);
    }

    /** 0, alone of kind 0, has a, b and t = (10, 20) and refers to 1; that has a = 1 and t = (7, 8), and no r. */
    private static LiveQueries pair(long a, long b) {
        LiveQueries x = Edges.of(1);
        x.object(1);
        x.put(0, 0, a);
        x.put(0, 1, b);
        x.row(0, 2);
        x.item(0, 0, 10);
        x.item(0, 1, 20);
        x.refer(0, 1);
        x.put(1, 0, 1);
        x.row(1, 2);
        x.item(1, 0, 7);
        x.item(1, 1, 8);
        return x;
    }

    private static void value(String formula, long a, long b, long want) {
        LiveQueries x = pair(a, b);
        checks.due("query with " + formula, Checks.ask(x, "0:;" + formula + ";;;"), 0);
        checks.due(formula + " of " + a + ", " + b, Edges.answer(() -> x.key(0, 0)), Long.toString(want));
    }

    /** Is ABSENT, wherever it stands in a QUERY. */
    private static void missing(String formula, long a, long b) {
        for (String section : SECTIONS) {
            LiveQueries x = pair(a, b);
            String text = section.replace("X", formula);
            checks.due("query " + text, Checks.ask(x, text), 0);
            checks.due("rows of " + text + " of " + a + ", " + b, x.size(0, 1), 0);
        }
    }

    // Terms

    private static void whoseRowItIs() {
        says("Terms: an X within [ ] is again of the OBJECT whose ROW it is.");
        value("r.t[a]", 0, 0, 7);
        value("r.t[i]", 0, 0, 7);
        value("r.t[r.i]", 0, 0, 8);
        value("r.t[t[0]/10]", 0, 0, 8);
        value("r.t[r.t[0]-r.t[i]]", 0, 0, 7);
        missing("r.t[n]", 0, 0);
    }

    private static void wrap() {
        says("Terms: Longs wrap");
        value("a+b", MOST, 1, LEAST);
        value("a+b", LEAST, -1, MOST);
        value("a+b", LEAST, LEAST, 0);
        value("a-b", LEAST, 1, MOST);
        value("a-b", MOST, -1, LEAST);
        value("a-b", 0, LEAST, LEAST);
        value("a*b", MOST, 2, -2);
        value("a*b", MOST, MOST, 1);
        value("a*b", LEAST, -1, LEAST);
        value("a*b", LEAST, 2, 0);
        value("a*b", 1L << 32, 1L << 31, LEAST);
        value("-a", LEAST, 0, LEAST);
        value("-a", MOST, 0, LEAST + 1);
        value("999999999*999999999*999999999", 0, 0, 999999999L * 999999999L * 999999999L);
        says("Terms: / and % are towards 0");
        for (long x : new long[] {-7, -1, 0, 1, 7, LEAST, MOST}) {
            for (long y : new long[] {-3, -2, 2, 3, 7, LEAST, MOST}) {
                BigInteger[] want = BigInteger.valueOf(x).divideAndRemainder(BigInteger.valueOf(y));
                value("a/b", x, y, want[0].longValue());
                value("a%b", x, y, want[1].longValue());
            }
        }
        value("a/b", -7, 2, -3);
        value("a%b", -7, 2, -1);
        value("a/b", 7, -2, -3);
        value("a%b", 7, -2, 1);
        says("Terms: (the least long by -1 wraps)");
        value("a/b", LEAST, -1, LEAST);
        value("a%b", LEAST, -1, 0);
        value("a/-1", LEAST, 0, LEAST);
        value("a%-1", LEAST, 0, 0);
        value("-a/b", LEAST, -1, LEAST);
        value("a/b", LEAST, 1, LEAST);
        value("a/b", MOST, -1, LEAST + 1);
        value("a/b", LEAST + 1, -1, MOST);
    }

    private static void absent() {
        alongNone();
        divided();
        noSuchPlace();
        allInWhich();
    }

    private static void alongNone() {
        says("Terms: ABSENT is what goes on along a reference that is none");
        for (String last : new String[] {"a", "b", "c", "n", "i", "t[0]"}) {
            missing("r.r." + last, 1, 1);
            missing("r.r.r." + last, 1, 1);
            missing("r.".repeat(8) + last, 1, 1);
        }
        LiveQueries x = pair(0, 0);
        Checks.ask(x, "0:r.a=1;;;;");
        checks.due("to one", x.size(0, 1), 1);
        checks.due("to none", x.refer(0, NONE), 1);
        checks.due("rows", x.size(0, 1), 0);
        checks.due("to one again", x.refer(0, 1), 1);
        checks.due("that is dropped", x.drop(1), 1);
        checks.due("rows", x.size(0, 1), 0);
        checks.due("to itself", x.refer(0, 0), 0);
        checks.due("a of itself", x.put(0, 0, 1), 1);
    }

    private static void divided() {
        says("Terms: divides by 0");
        for (long v : Edges.LONGS) {
            missing("a/b", v, 0);
            missing("a%b", v, 0);
            missing("a/0", v, 1);
            missing("a%0", v, 1);
            missing("1/(a-a)", v, 1);
            missing("1%(a-a)", v, 1);
        }
        value("0/a", 1, 0, 0);
        value("0%a", -1, 0, 0);
    }

    private static void noSuchPlace() {
        says("Terms: or has no such place in t");
        value("t[a]", 0, 0, 10);
        value("t[a]", 1, 0, 20);
        value("r.t[a]", 0, 0, 7);
        value("r.t[a]", 1, 0, 8);
        for (long place : new long[] {-1, 2, 3, 7, 8, 1L << 31, (1L << 32) - 1, 1L << 32, (1L << 32) + 1, -(1L << 32),
            1L << 62, LEAST, LEAST + 1, MOST}) {
            missing("t[a]", place, 0);
            missing("r.t[a]", place, 0);
        }
        missing("t[-1]", 0, 0);
        missing("t[n]", 0, 0);
        for (int n = 0; n <= 8; n++) {
            LiveQueries x = Edges.of(1);
            x.row(0, n);
            Checks.ask(x, "0:t[a]=b;;;;");
            for (int i = 0; i < 9; i++) {
                x.put(0, 0, i);
                checks.due("place " + i + " of " + n, x.size(0, 1), i < n ? 1 : 0);
            }
        }
    }

    private static void allInWhich() {
        says("Terms: and all in which something is ABSENT.");
        for (String operator : new String[] {"+", "-", "*", "/", "%"}) {
            for (String none : new String[] {"(1/0)", "1%0", "r.r.a", "t[2]"}) {
                missing("0" + operator + none, 0, 0);
                missing("0" + operator + "(" + none + ")", 0, 0);
                missing(none + operator + "1", 0, 0);
                missing("(" + none + ")" + operator + "1", 0, 0);
            }
        }
        missing("-(1/0)", 0, 0);
        missing("-t[2]", 0, 0);
        missing("t[1/0]", 0, 0);
        missing("t[0*t[2]]", 0, 0);
        missing("r.t[r.r.i]", 0, 0);
        missing("0*(1/0)", 0, 0);
        missing("t[t[t[2]]]", 0, 0);
    }

    private static void allIsWorkedOut() {
        says("Terms: All of FILTER, SORT, GROUP and SUM is worked out, also what would not count any more.");
        for (String text : new String[] {"0:1=1|r.a=1;;;;", "0:1=2&r.a=1;;;;", "0:1/0=1&r.a=1;;;;", "0:1/0=1|r.a=1;;;;",
            "0:1=2;r.a;;;", "0:1=2;;;r.a;", "0:1=2;;;;r.a", "0:1/0=1;r.a;;;", "0:;1/0;;r.a;", "0:;;;1/0;r.a",
            "0:;1/0;;;r.a", "0:;1/0+r.a;;;", "0:;0*r.a;;;", "0:;t[1/0+r.a];;;", "0:;r.t[1/0];;;", "0:;r.r.t[r.a];;;"}) {
            LiveQueries x = pair(0, 0);
            checks.due("query " + text, Checks.ask(x, text), 0);
            checks.due(text + " hangs on 0", x.uses(0, 0), 1);
            checks.due(text + " hangs on 1", x.uses(0, 1), 1);
        }
        LiveQueries x = pair(0, 0);
        Checks.ask(x, "0:1=1|1/b=1;;;;");
        checks.due("ABSENT, where one side would do", x.size(0, 1), 0);
        checks.due("not any more", x.put(0, 1, 1), 1);
    }

    private static void in() {
        says("Terms: The ROW is IN the QUERY, if nothing in it is ABSENT");
        for (String text : new String[] {"0:a/b=0;1;;1;1", "0:1=1;a/b;;1;1", "0:1=1;1;;a/b;1", "0:1=1;1;;1;a/b"}) {
            LiveQueries x = pair(0, 0);
            Checks.ask(x, text);
            checks.due(text, x.size(0, 1), 0);
            checks.due(text + ": it comes", x.put(0, 1, 1), 1);
            checks.due(text, x.size(0, 1), 1);
            checks.due(text + ": it goes", x.put(0, 1, 0), 1);
        }
        says("Terms: and FILTER holds (it does if it is nothing).");
        LiveQueries x = Edges.of(2);
        Checks.ask(x, "0:;;;;");
        Checks.ask(x, "0:1=1;;;;");
        Checks.ask(x, "0:1=2;;;;");
        Checks.ask(x, "0:a=0;;;;");
        Checks.ask(x, "1:;;;;");
        int[] want = {2, 2, 0, 2, 0};
        for (int q = 0; q < 5; q++) {
            checks.due("rows of " + q, x.size(q, 1), want[q]);
        }
    }

    private static void key() {
        says("Terms: Its KEY: SORT's value (0 without).");
        for (long v : Edges.LONGS) {
            LiveQueries x = pair(v, 5);
            Checks.ask(x, "0:;a;;;");
            Checks.ask(x, "0:a=a;;;b;b");
            checks.due("a", x.key(0, 0), v);
            checks.due("without", x.key(1, 0), 0);
        }
    }

    private static void hangs() {
        says("Terms: It HANGS on each OBJECT that is there of which anything was looked at for it");
        LiveQueries chain = Edges.of(60);
        for (int n = 0; n < 59; n++) {
            chain.refer(n, n + 1);
        }
        Checks.ask(chain, "0:;" + "r.".repeat(36) + "a;;;");
        for (int n = 0; n < 60; n++) {
            checks.due("on " + n, chain.uses(0, n), Math.min(n + 1, 37));
        }
        chain.drop(30);
        for (int n = 0; n < 60; n++) {
            checks.due("on " + n + " without 30", chain.uses(0, n), n == 30 ? NONE : n < 30 ? n + 1 : n - 30);
        }
        LiveQueries all = EdgesOfChangesTest.mostGoing();
        checks.due("all on 0", all.uses(5, 0), 60);
        checks.due("one on 59", all.uses(5, 59), 1);
        says("Terms: (its own one too, if a, b, c, n, i, t, r of that was");
        for (String one : new String[] {"a", "b", "c", "n", "i", "t[0]", "t[9]", "t[1/0]", "r.a"}) {
            hang("0:;" + one + ";;;", 1, one.equals("r.a") ? 1 : 0);
            hang("0:;r." + one + ";;;", 1, 1);
        }
        hang("0:;;;;", 0, 0);
        hang("0:1=2;3;4;5;6", 0, 0);
        hang("0:1/0=1;;;;", 0, 0);
        says("Terms: not on one that a r alone leads to, if nothing of it is looked at).");
        hang("0:a=1;;;;", 1, 0);
        hang("0:;t[0];;b;c", 1, 0);
        LiveQueries x = Edges.of(3);
        x.refer(0, 1);
        x.refer(1, 2);
        Checks.ask(x, "0:i=0&r.a=0;;;;");
        checks.due("on itself", x.uses(0, 0), 1);
        checks.due("on itself, and along r", x.uses(0, 1), 2);
        checks.due("on itself, along r, not further", x.uses(0, 2), 2);
    }

    private static void hang(String text, int own, int other) {
        LiveQueries x = pair(0, 0);
        checks.due("query " + text, Checks.ask(x, text), 0);
        checks.due(text + " hangs on its own", x.uses(0, 0), own);
        checks.due(text + " hangs on the other", x.uses(0, 1), other);
    }

    private static void order() {
        says("Terms: ROWS that are IN, by KEYS, then by OBJECTS");
        long[] keys = {MOST, 0, LEAST, -1, 1, 0, LEAST + 1, MOST, LEAST, MOST - 1};
        int[] want = {2, 8, 6, 3, 1, 5, 4, 9, 0, 7};
        LiveQueries before = Edges.of(10);
        LiveQueries after = Edges.of(10);
        Checks.ask(before, "0:;a;;;");
        for (int n = 0; n < 10; n++) {
            before.put(n, 0, keys[n]);
            after.put(n, 0, keys[n]);
        }
        Checks.ask(after, "0:;a;;;");
        for (int k = 0; k < 10; k++) {
            checks.due("kept, row " + k, before.got(0, k), want[k]);
            checks.due("at once, row " + k, after.got(0, k), want[k]);
            checks.due("its key", before.key(0, k), keys[want[k]]);
        }
        LiveQueries full = Edges.of(60);
        Checks.ask(full, "0:;-i/2;;;");
        Checks.ask(full, "0:;;;;");
        for (int k = 0; k < 60; k++) {
            checks.due("of 60, row " + k, full.got(0, k), 58 - k / 2 * 2 + k % 2);
            checks.due("without SORT, row " + k, full.got(1, k), k);
        }
    }

    private static void shown() {
        says("Terms: SHOWN are the first N of them");
        for (int rows : new int[] {0, 1, 2, 59, 60}) {
            for (int n : new int[] {1, 2, 9, 10, 58, 59, 60, 61, 99}) {
                LiveQueries x = Edges.of(rows);
                Checks.ask(x, "0:;-i;" + n + ";;");
                checks.due(n + " of " + rows + " shown", x.size(0, 0), Math.min(n, rows));
                checks.due(n + " of " + rows + " in", x.size(0, 1), rows);
            }
        }
        LiveQueries x = Edges.of(3);
        Checks.ask(x, "0:;-i;1;;");
        checks.due("the next one comes", x.object(0), 3);
        checks.due("the first before went", x.differ(0, 1), 2);
        checks.due("the first now came", x.differ(1, 1), 3);
        says("Terms: (all, if N is 0 or nothing)");
        for (int rows : new int[] {0, 1, 60}) {
            for (String n : new String[] {"", "0", "00"}) {
                LiveQueries y = Edges.of(rows);
                Checks.ask(y, "0:;;" + n + ";;");
                checks.due("'" + n + "' of " + rows, y.size(0, 0), rows);
            }
        }
        LiveQueries two = Edges.of(60);
        Checks.ask(two, "0:;;01;;");
        Checks.ask(two, "0:;;10;;");
        checks.due("01", two.size(0, 0), 1);
        checks.due("10", two.size(1, 0), 10);
    }

    private static void groups() {
        says("Terms: GROUPS, by GROUP's values");
        long[] values = {0, MOST, -1, LEAST, 1, MOST, LEAST + 1, 0};
        long[] want = {LEAST, LEAST + 1, -1, 0, 1, MOST};
        int[] rows = {1, 1, 1, 2, 1, 2};
        LiveQueries x = Edges.of(8);
        Checks.ask(x, "0:;;;a;b");
        for (int n = 0; n < 8; n++) {
            x.put(n, 0, values[n]);
            x.put(n, 1, n);
        }
        checks.due("groups", x.size(0, 2), 6);
        for (int k = 0; k < 6; k++) {
            checks.due("value of " + k, x.group(0, k, 0), want[k]);
            checks.due("rows of " + k, x.group(0, k, 1), rows[k]);
        }
        LiveQueries full = Edges.of(60);
        Checks.ask(full, "0:;;;-i;i");
        checks.due("60 groups", full.size(0, 2), 60);
        for (int k = 0; k < 60; k++) {
            checks.due("value of " + k, full.group(0, k, 0), k - 59);
            checks.due("sum of " + k, full.group(0, k, 2), 59 - k);
        }
        says("Terms: (all ROWS are one GROUP of 0 without GROUP");
        LiveQueries one = Edges.of(60);
        Checks.ask(one, "0:;i;;;");
        checks.due("groups", one.size(0, 2), 1);
        checks.due("its value", one.group(0, 0, 0), 0);
        checks.due("its rows", one.group(0, 0, 1), 60);
        says("Terms: no ROWS, no GROUPS)");
        for (String text : new String[] {"0:a=1;;;;", "0:a=1;;;i;", "1:;;;;", "0:;;;a/0;", "0:;;;;a/0"}) {
            LiveQueries none = Edges.of(2);
            Checks.ask(none, text);
            checks.due("groups of " + text, none.size(0, 2), 0);
            checks.dueMissing("the first group of " + text, () -> none.group(0, 0, 0));
        }
        LiveQueries gone = Edges.of(1);
        Checks.ask(gone, "0:;;;;");
        gone.drop(0);
        checks.due("groups when the last row went", gone.size(0, 2), 0);
        checks.due("a row comes", gone.object(0), 1);
        checks.due("its group", gone.group(0, 0, 2), 1);
        says("Terms: how many ROWS that are IN it has");
        LiveQueries few = Edges.of(9);
        Checks.ask(few, "0:i<8;;1;i%2;");
        checks.due("shown", few.size(0, 0), 1);
        checks.due("groups, SHOWN or not", few.size(0, 2), 2);
        checks.due("rows of the first", few.group(0, 0, 1), 4);
        checks.due("rows of the second", few.group(0, 1, 1), 4);
        outAgainAndAgain();
    }

    /** A row that is not IN any more is no row of its group, however often it is looked at again. */
    private static void outAgainAndAgain() {
        LiveQueries x = Edges.of(3);
        Checks.ask(x, "0:a=0;;;;b");
        x.put(0, 1, 5);
        x.put(1, 1, 7);
        for (int n = 1; n < 4; n++) {
            x.put(0, 0, n);
            checks.due("rows without it", x.group(0, 0, 1), 2);
            checks.due("sum without it", x.group(0, 0, 2), 7);
        }
        x.drop(0);
        checks.due("rows without the dropped one", x.group(0, 0, 1), 2);
        checks.due("sum without the dropped one", x.group(0, 0, 2), 7);
    }

    private static void sums() {
        says("Terms: and the exact sum of SUM's values");
        long[][] sums = {{MOST, 1}, {MOST, MOST}, {MOST, MOST, 2}, {LEAST, -1}, {LEAST, LEAST}, {-1, 1}, {1, -1},
            {LEAST, LEAST, MOST, MOST, 2}, {LEAST, MOST}, {-1, -1}, {0, 0}, {0, -1}, {MOST, MOST, 1, 1}};
        for (long[] some : sums) {
            sum(some);
        }
        long[] most = new long[60];
        java.util.Arrays.fill(most, MOST);
        sum(most);
        java.util.Arrays.fill(most, LEAST);
        sum(most);
        java.util.Arrays.fill(most, -1);
        sum(most);
        for (int n = 0; n < 60; n++) {
            most[n] = n % 2 == 0 ? LEAST : MOST;
        }
        sum(most);
        sumsOfSeveral();
        says("Terms: (1 for each without SUM)");
        for (int rows : new int[] {1, 2, 60}) {
            LiveQueries x = Edges.of(rows);
            Checks.ask(x, "0:;i;1;;");
            checks.due("sum", x.group(0, 0, 2), rows);
            checks.due("above", x.group(0, 0, 3), 0);
        }
    }

    /** Groups that come before others and go again leave the others' sums alone. */
    private static void sumsOfSeveral() {
        LiveQueries x = Edges.of(9);
        Checks.ask(x, "0:c=0;;;a;b");
        for (int n = 0; n < 9; n++) {
            x.put(n, 1, n % 3 == 0 ? LEAST : n % 3 == 1 ? MOST : -1);
            x.put(n, 0, 9 - n % 3);
        }
        BigInteger[] three = {BigInteger.valueOf(-3), BigInteger.valueOf(MOST).multiply(BigInteger.valueOf(3)),
            BigInteger.valueOf(LEAST).multiply(BigInteger.valueOf(3))};
        for (int k = 0; k < 3; k++) {
            dueSum(x, 0, k, three[k]);
        }
        x.object(0);
        checks.due("a group before the others", x.group(0, 0, 0), 0);
        dueSum(x, 0, 0, BigInteger.ZERO);
        for (int k = 0; k < 3; k++) {
            dueSum(x, 0, k + 1, three[k]);
        }
        x.put(9, 2, 1);
        for (int n = 2; n < 9; n += 3) {
            x.put(n, 2, 1);
        }
        checks.due("the first two are gone", x.size(0, 2), 2);
        dueSum(x, 0, 0, three[1]);
        dueSum(x, 0, 1, three[2]);
        x.object(0);
        dueSum(x, 0, 0, BigInteger.ZERO);
        dueSum(x, 0, 1, three[1]);
        x.put(10, 0, 99);
        dueSum(x, 0, 2, BigInteger.ZERO);
        for (int n = 0; n < 9; n += 3) {
            x.drop(n);
        }
        dueSum(x, 0, 1, BigInteger.ZERO);
    }

    /** Comes to the sum step by step, away from it again, and to it at once. */
    private static void sum(long[] some) {
        LiveQueries x = Edges.of(some.length);
        Checks.ask(x, "0:;;;;a");
        BigInteger sum = BigInteger.ZERO;
        for (int n = 0; n < some.length; n++) {
            x.put(n, 0, some[n]);
            sum = sum.add(BigInteger.valueOf(some[n]));
            dueSum(x, 0, 0, sum);
        }
        Checks.ask(x, "0:;;;;a");
        dueSum(x, 1, 0, sum);
        for (int n = 0; n + 1 < some.length; n++) {
            if (n % 2 == 0) {
                x.drop(n);
            } else {
                x.put(n, 0, 0);
            }
            sum = sum.subtract(BigInteger.valueOf(some[n]));
            dueSum(x, 0, 0, sum);
        }
    }

    private static void dueSum(LiveQueries x, int query, int k, BigInteger sum) {
        checks.due("low of " + sum, x.group(query, k, 2), sum.longValue());
        checks.due("high of " + sum, x.group(query, k, 3), sum.shiftRight(64).longValue());
    }

    // Promises 10 to 13 and 15

    private static final int[] NO_QUERY = Edges.with(Edges.FAR, -1, 3, 4, 5, 6, 7);

    private static void promises() {
        size();
        gotAndKey();
        group();
        uses();
    }

    private static void size() {
        says("10: How many ROWS of a QUERY are SHOWN (what 0), are IN (1), how many GROUPS (2) there are.");
        LiveQueries x = Edges.of(7);
        Checks.ask(x, "0:i>1;;3;i%2;");
        int[] want = {3, 5, 2};
        for (int what = 0; what < 3; what++) {
            checks.due("size " + what, x.size(0, what), want[what]);
        }
        Checks.ask(x, "1:;;3;i%2;");
        for (int what = 0; what < 3; what++) {
            checks.due("size of nothing " + what, x.size(1, what), 0);
        }
        says("10: NONE if there is none such");
        for (int query : NO_QUERY) {
            for (int n = 0; n < 3; n++) {
                int what = n;
                Edges.refused(checks, "size(" + query + ", " + what + ")", y -> y.size(query, what));
            }
        }
        Edges.refusedByFull(checks, "size(6, 0)", y -> y.size(6, 0));
        says("10: or for another what.");
        for (int what : Edges.with(Edges.FAR, -1, 3, 4)) {
            for (int n = 0; n < 3; n++) {
                int query = n;
                Edges.refused(checks, "size(" + query + ", " + what + ")", y -> y.size(query, what));
            }
        }
    }

    private static void gotAndKey() {
        says("11: The OBJECT of the k-th ROW of a QUERY that is IN, SHOWN or not");
        LiveQueries x = Edges.of(5);
        Checks.ask(x, "0:i>0;-i;2;;");
        for (int k = 0; k < 4; k++) {
            checks.due("got " + k, x.got(0, k), 4 - k);
        }
        says("12: Its KEY.");
        for (int k = 0; k < 4; k++) {
            checks.due("key " + k, x.key(0, k), k - 4);
        }
        for (int n = 0; n < 3; n++) {
            int query = n;
            int rows = Edges.busy().size(query, 1);
            for (int k : Edges.with(Edges.FAR, -1, rows, rows + 1, 59, 60)) {
                noRow(query, k);
            }
        }
        for (int query : NO_QUERY) {
            for (int k : new int[] {-1, 0, 1}) {
                noRow(query, k);
            }
        }
        Edges.refusedByFull(checks, "got(6, 0)", y -> y.got(6, 0));
        Edges.missingInFull(checks, "key(6, 0)", y -> y.key(6, 0));
        LiveQueries all = Edges.of(60);
        Checks.ask(all, "0:;i;;;");
        checks.due("key 59", all.key(0, 59), 59);
        checks.dueMissing("key 60 of 60 rows", () -> all.key(0, 60));
        checks.due("got 60 of 60 rows", all.got(0, 60), NONE);
    }

    private static void noRow(int query, int k) {
        says("11: NONE if there is none such.");
        Edges.refused(checks, "got(" + query + ", " + k + ")", x -> x.got(query, k));
        says("12: NoSuchElementException: there is none such.");
        Edges.missing(checks, "key(" + query + ", " + k + ")", x -> x.key(query, k));
    }

    private static void group() {
        says("13: what 0: its value, 1: how many ROWS, 2: the lowest 64 bits of the sum, 3: those above");
        LiveQueries x = Edges.of(3);
        x.put(1, 0, LEAST);
        x.put(2, 0, LEAST);
        x.put(0, 0, MOST);
        Checks.ask(x, "0:;;;a;a");
        long[][] want = {{LEAST, 2, 0, -1}, {MOST, 1, MOST, 0}};
        for (int k = 0; k < 2; k++) {
            for (int what = 0; what < 4; what++) {
                checks.due("group " + k + ", " + what, x.group(0, k, what), want[k][what]);
            }
        }
        says("13: NoSuchElementException: there is none such");
        for (int w = 0; w < 4; w++) {
            int what = w;
            for (int query : NO_QUERY) {
                Edges.missing(checks, "group(" + query + ", 0, " + what + ")", y -> y.group(query, 0, what));
            }
            for (int n = 0; n < 3; n++) {
                int query = n;
                int groups = Edges.busy().size(query, 2);
                for (int k : Edges.with(Edges.FAR, -1, groups, groups + 1, 59, 60)) {
                    Edges.missing(checks, "group(" + query + ", " + k + ", " + what + ")",
                        y -> y.group(query, k, what));
                }
            }
        }
        Edges.missingInFull(checks, "group(6, 0, 0)", y -> y.group(6, 0, 0));
        Edges.missingInFull(checks, "group 59 of 59", y -> y.group(5, 59, 0));
        LiveQueries all = Edges.of(60);
        Checks.ask(all, "0:;;;i;");
        checks.due("group 59", all.group(0, 59, 0), 59);
        checks.dueMissing("group 60 of 60", () -> all.group(0, 60, 0));
        says("13: or no such what.");
        for (int what : Edges.with(Edges.FAR, -1, 4, 5)) {
            Edges.missing(checks, "group(0, 0, " + what + ")", y -> y.group(0, 0, what));
            Edges.missing(checks, "group(0, 1, " + what + ")", y -> y.group(0, 1, what));
            Edges.missing(checks, "group(1, 0, " + what + ")", y -> y.group(1, 0, what));
        }
    }

    private static void uses() {
        says("15: How many ROWS of a QUERY (IN or not) HANG on an OBJECT.");
        LiveQueries x = Edges.of(60);
        for (int n = 0; n < 60; n++) {
            x.refer(n, 59);
        }
        Checks.ask(x, "0:r.a=1&1/i=0;;;;");
        checks.due("no one is IN", x.size(0, 1), 0);
        checks.due("all on 59", x.uses(0, 59), 60);
        checks.due("one on 0", x.uses(0, 0), 1);
        x.put(59, 0, 1);
        checks.due("all but 0 and 1 are IN", x.size(0, 1), 58);
        checks.due("all on 59 as before", x.uses(0, 59), 60);
        x.drop(0);
        checks.due("one less", x.uses(0, 59), 59);
        Checks.ask(x, "1:a=1;;;;");
        checks.due("no rows", x.uses(1, 59), 0);
        says("15: NONE if there is no such QUERY");
        for (int query : NO_QUERY) {
            for (int n = 0; n < 4; n++) {
                int object = n;
                Edges.refused(checks, "uses(" + query + ", " + object + ")", y -> y.uses(query, object));
            }
        }
        Edges.refusedByFull(checks, "uses(6, 0)", y -> y.uses(6, 0));
        says("15: or OBJECT that is there.");
        Edges.refusedByFull(checks, "uses(0, 60)", y -> y.uses(0, 60));
        Edges.refusedByFull(checks, "uses(5, 64)", y -> y.uses(5, 64));
        for (int object : Edges.NOT_THERE) {
            for (int n = 0; n < 3; n++) {
                int query = n;
                Edges.refused(checks, "uses(" + query + ", " + object + ")", y -> y.uses(query, object));
            }
        }
    }
}
