/** Promises 10 to 15: what a query tells, what came and went, and on what its rows hang. */
public final class AnswersTest {
    private static final int NONE = LiveQueries.NONE;
    private static final int[] WRONG = {-1, 3, 4, Integer.MIN_VALUE, Integer.MAX_VALUE};
    private static final Checks checks = new Checks();

    public static void main(String[] args) {
        values();
        absent();
        sizes();
        rowsAndKeys();
        groups();
        exactSums();
        differences();
        uses();
        usesOfWhatIsAbsent();
        usesOfAbsentPlaceKept();
        queryAfterFault();
        queryLater();
        checks.end();
    }

    /** An object 0 with a, b, c and t = (10, 20, 30), that refers to 1 with a = 100, t = (7), that refers to none. */
    private static LiveQueries sample(long a, long b, long c) {
        LiveQueries x = new LiveQueries();
        x.object(0);
        x.object(1);
        x.put(0, 0, a);
        x.put(0, 1, b);
        x.put(0, 2, c);
        x.row(0, 3);
        for (int i = 0; i < 3; i++) {
            x.item(0, i, 10 * (i + 1));
        }
        x.refer(0, 1);
        x.put(1, 0, 100);
        x.row(1, 1);
        x.item(1, 0, 7);
        return x;
    }

    private static void value(String formula, long a, long b, long c, long want) {
        LiveQueries x = sample(a, b, c);
        Checks.ask(x, "0:;" + formula + ";;;");
        checks.due("in " + formula, x.size(0, 1), 1);
        if (x.size(0, 1) == 1) {
            checks.due(formula, x.key(0, 0), want);
        }
    }

    private static void test(String filter, boolean want) {
        LiveQueries x = sample(1, 2, 2);
        Checks.ask(x, "0:" + filter + ";;;;");
        checks.due(filter, x.size(0, 1), want ? 1 : 0);
    }

    private static void values() {
        long least = Long.MIN_VALUE;
        value("a+b*c", 2, 3, 4, 14);
        value("(a+b)*c", 2, 3, 4, 20);
        value("a-b-c", 2, 3, 4, -5);
        value("a/b/c", 100, 5, 2, 10);
        value("a/b*c", 7, 2, 2, 6);
        value("a%b", -7, 2, 0, -1);
        value("a/b", -7, 2, 0, -3);
        value("a%b", 7, -2, 0, 1);
        value("-a*b", 2, 3, 0, -6);
        value("-a%b", 7, 4, 0, -3);
        value("a--b", 2, 3, 0, 5);
        value("a/b", least, -1, 0, least);
        value("a%b", least, -1, 0, 0);
        value("-a", least, 0, 0, least);
        value("a+b", Long.MAX_VALUE, 1, 0, least);
        value("a*b", least, 3, 0, least);
        value("n+i", 0, 0, 0, 3);
        value("r.i*10+r.n", 0, 0, 0, 11);
        value("t[2]-t[0]", 0, 0, 0, 20);
        value("r.t[a]", 0, 0, 0, 7);
        value("t[r.t[0]-6]", 0, 0, 0, 20);
        value("999999999+0000001", 0, 0, 0, 1000000000);
        test("a=1", true);
        test("b#c", false);
        test("a#b", true);
        test("a<b", true);
        test("b<c", false);
        test("a>b", false);
        test("b>a", true);
        test("b>c", false);
        test("a=1|a=2&b=9", true);
        test("{a=1|a=2}&b=9", false);
        test("!a=1|b=2", true);
        test("!{a=1|b=2}", false);
        test("!!a=1", true);
        test("a=2|b=3|c=2", true);
        test("a=1&b=2&c=3", false);
    }

    private static void absent() {
        for (String missing : new String[] {"a/0", "a%0", "r.r.a", "r.r.r.i", "t[3]", "t[-1]", "r.t[1]", "-t[9]",
            "t[t[9]]", "0*(1/0)", "t[65536*65536]", "r.t[r.r.n]"}) {
            for (String query : new String[] {"0:1=1|X=1;;;;", "0:!X=1;;;;", "0:1=2&X=1;;;;", "0:;X;;;", "0:;;;X;",
                "0:;;;;X", "0:1=1|X=1;a;1;b;c"}) {
                LiveQueries x = sample(1, 2, 3);
                Checks.ask(x, query.replace("X", missing));
                checks.due(query + " with " + missing, x.size(0, 1), 0);
                checks.due("no groups", x.size(0, 2), 0);
            }
        }
        LiveQueries x = sample(1, 2, 3);
        Checks.ask(x, "0:;r.a;;;");
        checks.due("as none when dropped", x.drop(1), 1);
        checks.due("not in", x.size(0, 1), 0);
    }

    private static void sizes() {
        LiveQueries x = new LiveQueries();
        for (int n = 0; n < 5; n++) {
            x.object(0);
        }
        int[] shown = {5, 5, 5, 3, 5, 5};
        String[] limits = {"", "0", "00", "3", "5", "99"};
        for (int q = 0; q < 6; q++) {
            Checks.ask(x, "0:i#7;;" + limits[q] + ";i%2;");
            checks.due("P10 shown", x.size(q, 0), shown[q]);
            checks.due("P10 in", x.size(q, 1), 5);
            checks.due("P10 groups", x.size(q, 2), 2);
        }
        for (int what : WRONG) {
            checks.due("P10 what", x.size(0, what), NONE);
        }
        checks.due("P10 query -1", x.size(-1, 0), NONE);
        checks.due("P10 query 6", x.size(6, 0), NONE);
        for (int n = 0; n < 5; n++) {
            x.drop(n);
        }
        for (int what = 0; what < 3; what++) {
            checks.due("P10 none are left", x.size(3, what), 0);
        }
    }

    private static void rowsAndKeys() {
        LiveQueries x = new LiveQueries();
        Checks.ask(x, "0:a>-9;b;2;;");
        long[] keys = {5, -3, 5, Long.MIN_VALUE, Long.MAX_VALUE, -3};
        for (int n = 0; n < keys.length; n++) {
            x.object(0);
            x.put(n, 1, keys[n]);
        }
        x.object(1);
        int[] order = {3, 1, 5, 0, 2, 4};
        for (int k = 0; k < order.length; k++) {
            checks.due("P11 by keys, then by objects", x.got(0, k), order[k]);
            checks.due("P12 key", x.key(0, k), keys[order[k]]);
        }
        for (int k : new int[] {-1, 6, 60, Integer.MIN_VALUE, Integer.MAX_VALUE}) {
            checks.due("P11 k", x.got(0, k), NONE);
            checks.dueMissing("P12 k", () -> x.key(0, k));
        }
        for (int q : new int[] {-1, 1, 6, Integer.MAX_VALUE}) {
            checks.due("P11 query", x.got(q, 0), NONE);
            checks.dueMissing("P12 query", () -> x.key(q, 0));
        }
        x.put(1, 0, -9);
        checks.due("P11 one less", x.got(0, 1), 5);
        x.put(4, 1, -4);
        checks.due("P11 to another place", x.got(0, 1), 4);
        checks.due("P12 its key", x.key(0, 1), -4);
        checks.due("P11 last", x.got(0, 4), 2);
        checks.due("P11 no more", x.got(0, 5), NONE);
        Checks.ask(x, "0:;;;;");
        checks.due("P11 without SORT", x.got(1, 3), 3);
        checks.due("P12 without SORT", x.key(1, 3), 0);
    }

    private static void groups() {
        LiveQueries x = new LiveQueries();
        Checks.ask(x, "0:c=0;;1;a;b");
        Checks.ask(x, "0:c=0;;;;");
        checks.due("P13 no rows, no groups", x.size(1, 2), 0);
        checks.dueMissing("P13 no rows", () -> x.group(1, 0, 0));
        long[] values = {4, -2, 4, 0, -2, 4};
        for (int n = 0; n < values.length; n++) {
            x.object(0);
            x.put(n, 0, values[n]);
            x.put(n, 1, 10 + n);
        }
        long[][] want = {{-2, 2, 25, 0}, {0, 1, 13, 0}, {4, 3, 37, 0}};
        for (int k = 0; k < 3; k++) {
            for (int what = 0; what < 4; what++) {
                checks.due("P13 group", x.group(0, k, what), want[k][what]);
            }
        }
        checks.due("P13 without GROUP", x.size(1, 2), 1);
        checks.due("P13 value without GROUP", x.group(1, 0, 0), 0);
        checks.due("P13 rows without GROUP", x.group(1, 0, 1), 6);
        checks.due("P13 sum without SUM", x.group(1, 0, 2), 6);
        checks.due("P13 above without SUM", x.group(1, 0, 3), 0);
        for (int what : new int[] {-1, 4, Integer.MIN_VALUE, Integer.MAX_VALUE}) {
            checks.dueMissing("P13 what", () -> x.group(0, 0, what));
        }
        for (int k : new int[] {-1, 3, Integer.MIN_VALUE, Integer.MAX_VALUE}) {
            checks.dueMissing("P13 k", () -> x.group(0, k, 0));
        }
        checks.dueMissing("P13 query -1", () -> x.group(-1, 0, 0));
        checks.dueMissing("P13 query 2", () -> x.group(2, 0, 0));
        x.put(3, 2, 1);
        checks.due("P13 an empty group is none", x.size(0, 2), 2);
        checks.due("P13 the next one", x.group(0, 1, 0), 4);
        x.drop(0);
        checks.due("P13 rows", x.group(0, 1, 1), 2);
        checks.due("P13 sum", x.group(0, 1, 2), 27);
    }

    private static void exactSums() {
        LiveQueries x = new LiveQueries();
        Checks.ask(x, "0:;;;;a");
        for (int n = 0; n < 4; n++) {
            x.object(0);
            x.put(n, 0, Long.MAX_VALUE);
        }
        checks.due("P13 four times the greatest, low", x.group(0, 0, 2), -4);
        checks.due("P13 four times the greatest, high", x.group(0, 0, 3), 1);
        for (int n = 0; n < 4; n++) {
            x.put(n, 0, Long.MIN_VALUE);
        }
        checks.due("P13 four times the least, low", x.group(0, 0, 2), 0);
        checks.due("P13 four times the least, high", x.group(0, 0, 3), -2);
        x.put(0, 0, 1);
        x.put(1, 0, Long.MAX_VALUE);
        x.drop(2);
        checks.due("P13 cancelled, low", x.group(0, 0, 2), 0);
        checks.due("P13 cancelled, high", x.group(0, 0, 3), 0);
        x.put(0, 0, 0);
        checks.due("P13 minus one, low", x.group(0, 0, 2), -1);
        checks.due("P13 minus one, high", x.group(0, 0, 3), -1);
    }

    private static void difference(LiveQueries x, int k, int query, int object, int came) {
        checks.due("P14 query of " + k, x.differ(k, 0), query);
        checks.due("P14 object of " + k, x.differ(k, 1), object);
        checks.due("P14 came of " + k, x.differ(k, 2), came);
    }

    private static void differences() {
        LiveQueries x = new LiveQueries();
        for (int n = 0; n < 6; n++) {
            x.object(0);
            x.put(n, 0, n);
        }
        for (int n = 0; n < 6; n++) {
            x.refer(n, 5);
        }
        Checks.ask(x, "0:;a;2;;");
        Checks.ask(x, "0:{r.b=0&i<3}|{r.b=1&i>1};;;;");
        Checks.ask(x, "0:;0-a;2;;");
        checks.due("P14 a query makes none", x.differ(0, 0), NONE);
        checks.due("P14 second query", x.put(5, 1, 1), 5);
        difference(x, 0, 1, 0, 0);
        difference(x, 1, 1, 1, 0);
        difference(x, 2, 1, 3, 1);
        difference(x, 3, 1, 4, 1);
        difference(x, 4, 1, 5, 1);
        difference(x, 5, NONE, NONE, NONE);
        checks.due("P14 the first ones of two queries", x.put(5, 0, -1), 4);
        difference(x, 0, 0, 1, 0);
        difference(x, 1, 0, 5, 1);
        difference(x, 2, 2, 5, 0);
        difference(x, 3, 2, 3, 1);
        difference(x, 4, NONE, NONE, NONE);
        Checks.ask(x, "0:;;;;");
        difference(x, 3, 2, 3, 1);
        difference(x, 4, NONE, NONE, NONE);
        for (int what : WRONG) {
            checks.due("P14 what", x.differ(0, what), NONE);
        }
        for (int k : new int[] {-1, Integer.MIN_VALUE, Integer.MAX_VALUE}) {
            difference(x, k, NONE, NONE, NONE);
        }
        checks.due("P14 only another order", x.put(5, 0, 0), 0);
        difference(x, 0, NONE, NONE, NONE);
        checks.due("P14 drop", x.drop(0), 3);
        difference(x, 0, 0, 0, 0);
        difference(x, 1, 0, 1, 1);
        difference(x, 2, 3, 0, 0);
        checks.due("P14 one that comes", x.object(0), 6);
        difference(x, 0, 0, 1, 0);
        difference(x, 1, 0, 6, 1);
        difference(x, 2, 3, 6, 1);
        difference(x, 3, NONE, NONE, NONE);
    }

    /** Objects 0 .. 3 in a chain of references, 0 alone of the kind of the query. */
    private static void hangs(String query, int... want) {
        LiveQueries x = new LiveQueries();
        for (int n = 0; n < 4; n++) {
            x.object(n == 0 ? 0 : 1);
        }
        for (int n = 0; n < 3; n++) {
            x.refer(n, n + 1);
        }
        checks.due("P15 query", Checks.ask(x, query), 0);
        for (int n = 0; n < 4; n++) {
            checks.due("P15 " + query + " on " + n, x.uses(0, n), want[n]);
        }
    }

    private static void uses() {
        hangs("0:;;;;", 0, 0, 0, 0);
        hangs("0:1=2;;;;", 0, 0, 0, 0);
        hangs("0:a=1;;;;", 1, 0, 0, 0);
        hangs("0:;b;;;", 1, 0, 0, 0);
        hangs("0:;;;c;", 1, 0, 0, 0);
        hangs("0:;;;;n", 1, 0, 0, 0);
        hangs("0:i=0;;;;", 1, 0, 0, 0);
        hangs("0:t[0]=0;;;;", 1, 0, 0, 0);
        hangs("0:r.i=0;;;;", 1, 1, 0, 0);
        hangs("0:;r.r.a;;;", 1, 1, 1, 0);
        hangs("0:;;;;r.r.r.n", 1, 1, 1, 1);
        hangs("0:;;;;r.r.r.r.r.n", 1, 1, 1, 1);
        hangs("0:1=2&r.a=0;;;;", 1, 1, 0, 0);
        hangs("0:1=1|r.a=0;;;;", 1, 1, 0, 0);
        hangs("0:1/0=1&r.a=0;;;r.r.b;", 1, 1, 1, 0);
        hangs("0:1=2;r.r.a;;;", 1, 1, 1, 0);
        hangs("0:;r.t[r.r.r.b];;;", 1, 1, 1, 1);
        hangs("0:;r.r.r.r.t[r.a];;;", 1, 1, 1, 1);
        LiveQueries x = new LiveQueries();
        for (int n = 0; n < 5; n++) {
            x.object(0);
            x.refer(n, 0);
        }
        Checks.ask(x, "0:r.a=7;;;;");
        checks.due("P15 all on 0", x.uses(0, 0), 5);
        checks.due("P15 one on 1", x.uses(0, 1), 1);
        checks.due("P15 query 1", x.uses(1, 0), NONE);
        checks.due("P15 query -1", x.uses(-1, 0), NONE);
        for (int object : new int[] {-1, 5, 60, Integer.MIN_VALUE, Integer.MAX_VALUE}) {
            checks.due("P15 object", x.uses(0, object), NONE);
        }
        x.refer(4, NONE);
        checks.due("P15 not any more", x.uses(0, 0), 4);
        checks.due("P15 its own r was looked at", x.uses(0, 4), 1);
        x.refer(1, 2);
        checks.due("P15 two on 2", x.uses(0, 2), 2);
        x.drop(1);
        checks.due("P15 a dropped row hangs on nothing", x.uses(0, 2), 1);
        x.drop(0);
        checks.due("P15 a dropped object", x.uses(0, 0), NONE);
        checks.due("P15 the others", x.uses(0, 2), 1);
    }

    /** All is worked out: t is looked at also where the place in it is ABSENT, or where it has no such place. */
    private static void usesOfWhatIsAbsent() {
        hangs("0:;t[1/0];;;", 1, 0, 0, 0);
        hangs("0:;t[1%0];;;", 1, 0, 0, 0);
        hangs("0:;t[-(2+1/0)];;;", 1, 0, 0, 0);
        hangs("0:1/0=t[1/0];;;;", 1, 0, 0, 0);
        hangs("0:1=2&!t[1/0]=1;;;;", 1, 0, 0, 0);
        hangs("0:;;;t[1/0];", 1, 0, 0, 0);
        hangs("0:;;;;t[1/0]", 1, 0, 0, 0);
        hangs("0:;r.t[1/0];;;", 1, 1, 0, 0);
        hangs("0:r.r.t[1/0]=1;;;;", 1, 1, 1, 0);
        hangs("0:;r.t[t[0]];;;", 1, 1, 0, 0);
        hangs("0:;r.t[r.t[0]];;;", 1, 1, 0, 0);
        hangs("0:;r.r.t[t[0]];;;", 1, 1, 1, 0);
        hangs("0:;r.r.t[1/a];;;", 1, 1, 1, 0);
        hangs("0:;;;;r.r.r.t[r.t[1/0]]", 1, 1, 1, 1);
        hangs("0:;;;r.r.t[r.r.r.r.a];", 1, 1, 1, 1);
        hangs("0:;r.r.r.r.t[1/0];;;", 1, 1, 1, 1);
        hangs("0:;a/0+1/0;;;", 1, 0, 0, 0);
        hangs("0:1/0=1;r.t[0];;;", 1, 1, 0, 0);
        hangs("0:;r.t[9];;;", 1, 1, 0, 0);
        hangs("0:;r.t[-1];;;", 1, 1, 0, 0);
    }

    /** Only an OBJECT that is there is hung on, and that is told anew with each CHANGE. */
    private static void usesOfAbsentPlaceKept() {
        LiveQueries x = new LiveQueries();
        x.object(0);
        x.object(1);
        x.object(1);
        Checks.ask(x, "0:;r.t[1/a];;;");
        checks.due("P15 r is none", x.uses(0, 1), 0);
        x.refer(0, 1);
        checks.due("P15 r leads to 1", x.uses(0, 1), 1);
        checks.due("P15 but is not IN", x.size(0, 1), 0);
        x.refer(0, 2);
        checks.due("P15 not to 1 any more", x.uses(0, 1), 0);
        checks.due("P15 r leads to 2", x.uses(0, 2), 1);
        x.row(2, 2);
        x.item(2, 1, 44);
        checks.due("P15 the place is there", x.put(0, 0, 1), 1);
        checks.due("P15 its key", x.key(0, 0), 44);
        checks.due("P15 as before", x.uses(0, 2), 1);
        checks.due("P15 ABSENT again", x.put(0, 0, 0), 1);
        checks.due("P15 still on 2", x.uses(0, 2), 1);
        x.drop(2);
        checks.due("P15 2 is dropped", x.uses(0, 2), NONE);
        checks.due("P15 its own r", x.uses(0, 0), 1);
    }

    /** Nothing of a text with a fault goes into the next query. */
    private static void queryAfterFault() {
        LiveQueries x = sample(1, 2, 3);
        checks.due("fault", Checks.ask(x, "0:a=9;b;1;c;a~"), -14);
        checks.due("fault", Checks.ask(x, "0:;;;;"), 0);
        checks.due("no FILTER is left", x.size(0, 1), 1);
        checks.due("no SORT is left", x.key(0, 0), 0);
        checks.due("no GROUP is left", x.group(0, 0, 0), 0);
        checks.due("no SUM is left", x.group(0, 0, 2), 1);
        x.object(0);
        checks.due("no N is left", x.size(0, 0), 2);
        checks.due("nothing is looked at", x.uses(0, 0), 0);
    }

    private static void queryLater() {
        LiveQueries x = sample(1, 2, 3);
        x.object(0);
        x.drop(2);
        checks.due("later query", Checks.ask(x, "0:r.a=100;a;;b;c"), 0);
        checks.due("later size", x.size(0, 1), 1);
        checks.due("later sum", x.group(0, 0, 2), 3);
        checks.due("later change", x.put(1, 0, 99), 1);
        checks.due("later went", x.differ(0, 2), 0);
    }
}
