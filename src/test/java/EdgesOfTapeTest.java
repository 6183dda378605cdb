/** Each sentence on the TAPE and a QUERY's text that names an edge has a test of its own: Terms, promises 8 and 9. */
public final class EdgesOfTapeTest {
    private static final String OPERATORS = "+-*/%";
    private static final String COMPARISONS = "=#<>";
    private static final String DIGITS = "0123456789";
    private static final String FACTOR = DIGITS + "rabcnit-(";
    private static final String FACTOR_OF_TWELVE = DIGITS + "rabcnit";
    private static final String TEST = FACTOR + "!{";
    private static final Checks checks = new Checks();

    public static void main(String[] args) {
        type();
        query();
        parts();
        formulas();
        openOnes();
        faults();
        checks.end();
    }

    private static void says(String sentence) {
        checks.says(sentence);
    }

    private static void good(String text) {
        checks.due(text, Checks.ask(new LiveQueries(), text), 0);
    }

    private static void bad(String text, int place) {
        checks.due(text, Checks.ask(new LiveQueries(), text), -1 - place);
    }

    /** SORT's value of an object that refers to itself and has t = (3, 4). */
    private static void value(String formula, long want) {
        LiveQueries x = new LiveQueries();
        x.object(0);
        x.refer(0, 0);
        x.row(0, 2);
        x.item(0, 0, 3);
        x.item(0, 1, 4);
        checks.due("query with " + formula, Checks.ask(x, "0:;" + formula + ";;;"), 0);
        checks.due(formula, Edges.answer(() -> x.key(0, 0)), Long.toString(want));
    }

    private static void holds(String filter, boolean want) {
        LiveQueries x = Edges.of(1);
        checks.due("query with " + filter, Checks.ask(x, "0:" + filter + ";;;;"), 0);
        checks.due(filter, x.size(0, 1), want ? 1 : 0);
    }

    /** The beginning of a query of that many characters (8 or more), which ends too early. */
    private static String unfinished(int length) {
        return "0:;;;;" + (length % 2 == 0 ? "" : "1") + "1+".repeat((length - 6) / 2);
    }

    // Promise 8

    private static void type() {
        lowestBytesHighestFirst();
        anotherN();
        otherBytes();
        moreThanEighty();
    }

    private static void lowestBytesHighestFirst() {
        says("8: The n (1 .. 8) lowest bytes of word, the highest first, go to the TAPE: true");
        String text = "0:;;;;123456789";
        for (int n = 1; n <= 8; n++) {
            for (long above : new long[] {0, -1, 0x2020202020202020L, 0x4141414141414141L}) {
                LiveQueries x = Edges.of(1);
                for (int p = 0; p < text.length(); p += n) {
                    String part = text.substring(p, Math.min(p + n, text.length()));
                    long word = Checks.word(part) | (part.length() < 8 ? above << 8 * part.length() : 0);
                    checks.due("type " + n, x.type(word, part.length()), true);
                }
                checks.due("query of " + n, x.query(), 0);
                checks.due("sum of " + n, Edges.answer(() -> x.group(0, 0, 2)), "123456789");
            }
        }
    }

    /** What stands between two halves of a query changes nothing. */
    private static void refused(String name, long word, int n) {
        LiveQueries x = Edges.of(1);
        Checks.type(x, "0:;;;;12");
        checks.due(name, x.type(word, n), false);
        Checks.type(x, "34");
        checks.due("query after " + name, x.query(), 0);
        checks.due("sum after " + name, Edges.answer(() -> x.group(0, 0, 2)), "1234");
    }

    private static void anotherN() {
        says("8: false, changing nothing, for another n");
        long word = Checks.word("99999999");
        for (int n : Edges.with(Edges.FAR, -7, -1, 0, 9, 10, 16, 17, 65, 257, 65537, (1 << 30) + 1)) {
            refused("type of " + n, word, n);
        }
    }

    private static void otherBytes() {
        says("8: a byte that is not 33 .. 126");
        for (int n = 1; n <= 8; n++) {
            for (int b = 0; b < n; b++) {
                for (int c = 0; c < 256; c++) {
                    long word = Checks.word("00000000") & ~(255L << 8 * b) | (long) c << 8 * b;
                    boolean plain = c >= 33 && c <= 126;
                    LiveQueries x = new LiveQueries();
                    checks.due("byte " + c + " at " + b + " of " + n, x.type(word, n), plain);
                    checks.due("then 72", Checks.type(x, "0".repeat(72)), true);
                    checks.due("then " + n, x.type(Checks.word("00000000"), n), !plain || 72 + 2 * n <= 80);
                }
            }
        }
        refused("a first byte of 32", Checks.word(" 9"), 2);
        refused("a last byte of 127", Checks.word("9\u007f"), 2);
        refused("a middle byte of 255", Checks.word("9\u00ff9"), 3);
    }

    private static void moreThanEighty() {
        says("8: or if it would have more than 80.");
        for (int length = 70; length <= 80; length++) {
            for (int n = 1; n <= 8; n++) {
                LiveQueries x = new LiveQueries();
                checks.due("typed", Checks.type(x, unfinished(length)), true);
                boolean fits = length + n <= 80;
                checks.due(length + " and " + n, x.type(Checks.word("~~~~~~~~"), n), fits);
                checks.due("the fault of " + length + " and " + n, x.query(), -1 - length);
            }
        }
        LiveQueries x = Edges.of(1);
        Checks.type(x, unfinished(79));
        checks.due("80 and 81", x.type(Checks.word("12"), 2), false);
        checks.due("80", x.type(Checks.word("3"), 1), true);
        checks.due("81", x.type(Checks.word("4"), 1), false);
        checks.due("query", x.query(), 0);
        checks.due("sum", Edges.answer(() -> x.group(0, 0, 2)), Integer.toString(11 + 35 + 3));
        checks.due("80 again, when it is empty again", Checks.type(x, "0".repeat(80)), true);
        checks.due("81 again", x.type(Checks.word("0"), 1), false);
    }

    // Promise 9

    private static void query() {
        emptyInAnyCase();
        itsNumber();
        placeOfItsFault();
        thereAreSix();
        differencesStay();
    }

    private static void emptyInAnyCase() {
        says("9: The TAPE (which is empty then in any case)");
        for (String text : new String[] {"0:;;;;", "0:;", "~", "", "0:;;;;" + "1".repeat(74)}) {
            LiveQueries x = new LiveQueries();
            Checks.ask(x, text);
            checks.due("query of an empty tape after " + text, x.query(), -1);
            checks.due("80 after " + text, Checks.type(x, "0".repeat(80)), true);
            checks.due("81 after " + text, x.type(Checks.word("0"), 1), false);
        }
        LiveQueries x = Edges.of(1);
        Checks.ask(x, "0:;;;;123");
        Checks.ask(x, "0:;;;;4");
        checks.due("nothing of an earlier one is left", Edges.answer(() -> x.group(1, 0, 2)), "4");
    }

    private static void itsNumber() {
        says("9: is a QUERY: its number, 0, 1, ..");
        LiveQueries x = new LiveQueries();
        for (int q = 0; q < 6; q++) {
            checks.due("a fault", Checks.ask(x, "0:;;;"), -6);
            checks.due("no query yet", x.size(q, 0), -1);
            checks.due("number", Checks.ask(x, "0:;;;;"), q);
            checks.due("query", x.size(q, 0), 0);
        }
    }

    private static void placeOfItsFault() {
        says("9: or -1 less the place of its FAULT.");
        bad("", 0);
        bad("~", 0);
        bad("0~", 1);
        bad(unfinished(79) + "~", 79);
        bad(unfinished(80), 80);
        LiveQueries x = Edges.busy();
        for (String text : new String[] {"", "~", "0:a=1;a;1;a;a;", "0:{a=1;a;1;a;a"}) {
            Checks.ask(x, text);
        }
        checks.due("all is as before", Edges.whole(x), Edges.whole(Edges.busy()));
        nothingOfAFaultIsLeft();
    }

    private static void nothingOfAFaultIsLeft() {
        for (String fault : new String[] {"0:r.a=1;1;1;1;5~", "1:1=2;1/0;11;r.a;1/0;", "3:1=2;r.a;1;"}) {
            LiveQueries x = Edges.of(3);
            checks.due("one before it", Checks.ask(x, "0:;7+7+7+7+7+7+7+7+7+7+7+7;;;"), 0);
            checks.due("faulty", Checks.ask(x, fault) < 0, true);
            checks.due("the next", Checks.ask(x, "0:;;;;"), 1);
            checks.due("shown", x.size(1, 0), 3);
            checks.due("hangs on", x.uses(1, 0), 0);
            checks.due("key", x.key(1, 2), 0);
            checks.due("group", x.group(1, 0, 0), 0);
            checks.due("sum", x.group(1, 0, 2), 3);
        }
    }

    private static void thereAreSix() {
        says("9: IllegalStateException (asked first, the TAPE is empty then, too): there are 6.");
        for (String text : new String[] {"", "~", "0:;;;;", "0:;;;;" + "1".repeat(74)}) {
            LiveQueries x = Edges.busy();
            for (int q = 3; q < 6; q++) {
                checks.due("query", Checks.ask(x, "0:;;;;"), q);
            }
            LiveQueries before = Edges.busy();
            Checks.ask(before, "0:;;;;");
            Checks.type(x, text);
            checks.dueFull("the seventh, of " + text, x::query);
            checks.due("80 after " + text, Checks.type(x, "0".repeat(80)), true);
            checks.due("81 after " + text, x.type(Checks.word("0"), 1), false);
            checks.dueFull("the seventh again", x::query);
            checks.dueFull("the seventh of nothing", x::query);
            checks.due("all is as before", Edges.whole(x), Edges.whole(before));
            checks.due("the sixth", x.size(5, 1), 2);
            checks.due("no seventh", x.size(6, 1), -1);
        }
    }

    private static void differencesStay() {
        says("9: (DIFFERENCES stay.)");
        LiveQueries x = Edges.busy();
        for (String text : new String[] {"0:;;;;", "0:;;;", "1:;;;;", "0:;;1;;", "0:;;;;"}) {
            Edges.answer(() -> Checks.ask(x, text));
            checks.due("the first", x.differ(0, 1), 2);
            checks.due("the last", x.differ(3, 1), 3);
            checks.due("no more", x.differ(4, 1), -1);
        }
    }

    // Terms

    private static void parts() {
        says("Terms: THE TAPE has at most 80 characters, 33 .. 126.");
        for (char c = 33; c <= 126; c++) {
            checks.due("type of " + c, new LiveQueries().type(c, 1), true);
        }
        LiveQueries full = Edges.of(1);
        String text = "0:a<1&a<2;a+11111;22;33333;" + "7+".repeat(26) + "1";
        checks.due("its length", text.length(), 80);
        checks.due("a query of 80 characters", Checks.ask(full, text), 0);
        checks.due("KEY", full.key(0, 0), 11111);
        checks.due("GROUP", full.group(0, 0, 0), 33333);
        checks.due("SUM", full.group(0, 0, 2), 183);
        says("Terms: with K a digit 0 .. 3");
        for (char c = 33; c <= 126; c++) {
            checks.due("K " + c, Checks.ask(new LiveQueries(), c + ":;;;;"), c >= '0' && c <= '3' ? 0 : -1);
        }
        bad("00:;;;;", 1);
        bad("33:;;;;", 1);
        numberOfRows();
        says("Terms: FILTER an OR or nothing");
        good("0:;;;;");
        good("0:a=b|b=c;;;;");
        bad("0:a;;;;", 3);
        bad("0:a+1;;;;", 5);
        bad("0:(a=b);;;;", 4);
        says("Terms: the others an X or nothing.");
        good("0:;a;;b;c");
        for (String before : new String[] {"0:;", "0:;;;", "0:;;;;"}) {
            String after = ";;;;".substring(before.length() - 2);
            good(before + "-a+1" + after);
            bad(before + "a=b" + after, before.length() + 1);
            bad(before + "{a" + after, before.length());
            bad(before + "!a" + after, before.length());
        }
    }

    private static void numberOfRows() {
        says("Terms: N 0 to 2 digits");
        good("0:;;;;");
        for (int n = 0; n < 100; n++) {
            good("0:;;" + n + ";;");
            good("0:;;" + n / 10 + n % 10 + ";;");
        }
        says("Terms: FAULT: .. of N a third one");
        bad("0:;;000;;", 6);
        bad("0:;;100;;", 6);
        bad("0:;;0011;;", 6);
        bad("0:;;123456789;;", 6);
        bad("0:;;-1;;", 4);
        bad("0:;;a;;", 4);
    }

    private static void formulas() {
        says("Terms: OR: AND | AND ..");
        holds("1=2", false);
        holds("1=2|".repeat(17) + "1=2", false);
        holds("1=2|".repeat(17) + "1=1", true);
        holds("1=1" + "|1=2".repeat(17), true);
        says("Terms: AND: TEST & TEST ..");
        holds("1=1", true);
        holds("1=1&".repeat(17) + "1=1", true);
        holds("1=1&".repeat(17) + "1=2", false);
        holds("1=2" + "&1=1".repeat(17), false);
        says("Terms: TEST: ! TEST, { OR }");
        holds("!1=1", false);
        holds("!1=2", true);
        holds("!".repeat(11) + "1=1", false);
        holds("!".repeat(12) + "1=1", true);
        holds("{1=1}", true);
        holds("{1=2}", false);
        holds("!{1=1|1=2}", false);
        holds("!1=1|1=1", true);
        holds("!1=2&1=2", false);
        holds("1=1|1=1&1=2", true);
        holds("{1=1|1=1}&1=2", false);
        says("Terms: X = X, X # X (not alike), X < X, X > X");
        for (int x = 0; x < 3; x++) {
            holds(x + "=1", x == 1);
            holds(x + "#1", x != 1);
            holds(x + "<1", x < 1);
            holds(x + ">1", x > 1);
        }
        says("Terms: X: TERM, then any number of + TERM, - TERM");
        value("7", 7);
        value("7" + "+1".repeat(36), 43);
        value("7" + "-1".repeat(36), -29);
        value("7" + "-1+2".repeat(18), 25);
        says("Terms: TERM: FACTOR, then any number of * FACTOR, / FACTOR, % FACTOR");
        value("2" + "*2".repeat(36), 1L << 37);
        value("999999999" + "/2".repeat(29), 1);
        value("999999999" + "/2".repeat(30), 0);
        value("9" + "%7".repeat(36), 2);
        value("9" + "*9/4%7".repeat(12), powers());
        numbers();
        paths();
    }

    private static long powers() {
        long v = 9;
        for (int n = 0; n < 12; n++) {
            v = v * 9 / 4 % 7;
        }
        return v;
    }

    private static void numbers() {
        says("Terms: 1 to 9 digits");
        for (int n = 1; n <= 9; n++) {
            value("9".repeat(n), Long.parseLong("9".repeat(n)));
            value("0".repeat(n), 0);
            value("0".repeat(n - 1) + "7", 7);
        }
        value("123456789-987654321", 123456789 - 987654321);
        says("Terms: FAULT: .. a tenth digit");
        for (String before : new String[] {"0:", "0:a=", "0:!", "0:{", "0:;", "0:;;;", "0:;;;;", "0:;;;;-", "0:;;;;(",
            "0:;;;;t[", "0:;;;;r.t[", "0:;;;;1+", "0:;;;;1*"}) {
            bad(before + "1234567890", before.length() + 9);
            bad(before + "00000000000", before.length() + 9);
        }
    }

    private static void paths() {
        says("Terms: a PATH: any number of r. , then a, b, c, n (how many t has), i (the OBJECT's number)");
        value("n", 2);
        value("r.".repeat(36) + "n", 2);
        LiveQueries chain = Edges.of(60);
        for (int n = 0; n < 59; n++) {
            chain.refer(n, n + 1);
        }
        Checks.ask(chain, "0:;i;;;" + "r.".repeat(36) + "i");
        checks.due("those with 36 behind them", chain.size(0, 1), 24);
        checks.due("the first one", chain.got(0, 0), 0);
        checks.due("the last one", chain.got(0, 23), 23);
        checks.due("the sum of 36 .. 59", chain.group(0, 0, 2), 24 * 95 / 2);
        for (int n = 0; n <= 8; n++) {
            LiveQueries x = Edges.of(60);
            x.row(59, n);
            Checks.ask(x, "0:i>58;n;;i;");
            checks.due("n", x.key(0, 0), n);
            checks.due("i", x.group(0, 0, 0), 59);
        }
        says("Terms: t[ X ] (what t has at that place, from 0 on)");
        value("t[0]", 3);
        value("t[1]", 4);
        value("r.".repeat(34) + "t[1]", 4);
        value("t[n-1]", 4);
        value("t[t[0]-t[1]+1]", 3);
    }

    // How many may be open

    private static void openOnes() {
        says("Terms: Of ! - ( { [ at most 12 are open in one another");
        open("!", "");
        open("{", "}");
        openInX("-", "");
        openInX("(", ")");
        openInX("t[", "]");
        openInX("r.t[", "]");
        good("0:" + "!{".repeat(6) + "1=1" + "}".repeat(6) + ";;;;");
        bad("0:" + "!{".repeat(6) + "-1=1" + "}".repeat(6) + ";;;;", 14);
        bad("0:" + "!{".repeat(6) + "1=(1)" + "}".repeat(6) + ";;;;", 16);
        bad("0:" + "!{".repeat(6) + "t[0]=1" + "}".repeat(6) + ";;;;", 15);
        good("0:!{-(t[-(-(t[-(0)]))])=1};;;;");
        bad("0:!{-(t[-(-(t[-(-0)]))])=1};;;;", 16);
        good("0:;" + "-(".repeat(6) + "1" + ")".repeat(6) + ";;;");
        bad("0:;" + "-(".repeat(6) + "1+(1)" + ")".repeat(6) + ";;;", 17);
        says("Terms: (- and ! till what is behind them ends).");
        good("0:;" + "-1*".repeat(24) + "1;;;");
        good("0:;-1" + "--1".repeat(22) + ";;;");
        good("0:;" + "-".repeat(12) + "1+" + "-".repeat(12) + "1*" + "-".repeat(12) + "1;;;");
        good("0:;-(1)+" + "-".repeat(12) + "1;;;");
        bad("0:;-(1+" + "-".repeat(11) + "1);;;", 17);
        good("0:;-(1+" + "-".repeat(10) + "1);;;");
        good("0:" + "!".repeat(12) + "1=1&" + "!".repeat(12) + "1=1|" + "!".repeat(12) + "1=1;;;;");
        good("0:" + "!{1=1}&".repeat(10) + "1=1;;;;");
        good("0:!1=" + "-".repeat(11) + "1;;;;");
        bad("0:!1=" + "-".repeat(12) + "1;;;;", 16);
        good("0:!1=1&1=" + "-".repeat(12) + "1;;;;");
        good("0:" + "-".repeat(12) + "1=" + "-".repeat(12) + "1;;;;");
        good("0:{!1=1}&" + "!".repeat(12) + "1=1;;;;");
        good("0:;" + "-".repeat(12) + "1;;" + "-".repeat(12) + "1;" + "-".repeat(12) + "1");
        good("0:;t[0]+" + "t[".repeat(12) + "0" + "]".repeat(12) + "+(1);;;");
        good("0:;" + "(1)+".repeat(13) + "1;;;");
    }

    private static void open(String one, String end) {
        good("0:" + one.repeat(12) + "1=1" + end.repeat(12) + ";;;;");
        bad("0:" + one.repeat(13) + "1=1" + end.repeat(13) + ";;;;", 14);
        bad("0:" + one.repeat(14) + "1=1" + end.repeat(14) + ";;;;", 14);
    }

    private static void openInX(String one, String end) {
        for (String before : new String[] {"0:", "0:1=", "0:;", "0:;;;", "0:;;;;"}) {
            String after = before.equals("0:") ? "=1;;;;" : before.equals("0:1=") ? ";;;;"
                : ";;;;".substring(before.length() - 2);
            good(before + one.repeat(12) + "1" + end.repeat(12) + after);
            bad(before + one.repeat(13) + "1", before.length() + 13 * one.length() - 1);
        }
    }

    // Faults

    private static void faults() {
        tooEarly();
        says("Terms: FAULT: the first character that can't stand there");
        stand("", "0123");
        stand("3", ":");
        stand("0:", TEST + ";");
        stand("0:!", TEST);
        stand("0:{", TEST);
        stand("0:a=b&", TEST);
        stand("0:a=b|", TEST);
        stand("0:{a=b|", TEST);
        standInFilter();
        standInX("0:", COMPARISONS);
        standInX("0:!", COMPARISONS);
        standInX("0:{", COMPARISONS);
        standInX("0:a=b&", COMPARISONS);
        standInX("0:a=b|", COMPARISONS);
        for (char c : COMPARISONS.toCharArray()) {
            standInX("0:a" + c, "&|;");
            standInX("0:{a" + c, "&|}");
            standInX("0:!{a" + c, "&|}");
            standInX("0:!a" + c, "&|;");
        }
        for (String before : new String[] {"0:;", "0:;;;"}) {
            stand(before, FACTOR + ";");
            standInX(before, ";");
        }
        stand("0:;;;;", FACTOR);
        standInX("0:;;;;", "");
        stand("0:;;", DIGITS + ";");
        stand("0:;;1", DIGITS + ";");
        stand("0:;;12", ";");
        stand("0:a=b;c;12", ";");
        stand("0:a=b;c;12;", FACTOR + ";");
        standAtTwelve();
    }

    /** Each character behind a beginning: those that can stand there, and no others. */
    private static void stand(String before, String able) {
        for (char c = 33; c <= 126; c++) {
            String text = before + c;
            int answer = Checks.ask(new LiveQueries(), text);
            if (able.indexOf(c) < 0) {
                checks.due(text, answer, -1 - before.length());
            } else {
                checks.due(text + " is no fault there", answer == 0 || answer == -2 - before.length(), true);
            }
        }
    }

    /** Within an X behind that beginning; what ends it can stand behind it. */
    private static void standInX(String before, String ends) {
        for (String so : new String[] {"a", "b", "c", "n", "i", "r.a", "t[0]", "r.r.t[a]", "123456789", "(a)", "-a",
            "(-a)", "a+b", "a*b", "a%b-c", "-t[-a]"}) {
            stand(before + so, OPERATORS + ends);
        }
        for (String so : new String[] {"0", "1", "12345678", "a+1", "a*99", "-2"}) {
            stand(before + so, OPERATORS + ends + DIGITS);
        }
        for (String so : new String[] {"-", "(", "t[", "r.t[", "a+", "a-", "a*", "a/", "a%", "1+", "t[0]*", "(a)-"}) {
            stand(before + so, FACTOR);
        }
        stand(before + "r", ".");
        stand(before + "r.", "rabcnit");
        stand(before + "r.r", ".");
        stand(before + "t", "[");
        stand(before + "r.t", "[");
        stand(before + "(a", OPERATORS + ")");
        stand(before + "((a)", OPERATORS + ")");
        stand(before + "(t[a]", OPERATORS + ")");
        stand(before + "t[a", OPERATORS + "]");
        stand(before + "t[(a)", OPERATORS + "]");
        stand(before + "t[t[a]", OPERATORS + "]");
        stand(before + "t[1", OPERATORS + "]" + DIGITS);
        stand(before + "(1", OPERATORS + ")" + DIGITS);
    }

    private static void standInFilter() {
        stand("0:{a=b}", "&|;");
        stand("0:!{a=b}", "&|;");
        stand("0:{{a=b}", "&|}");
        stand("0:{!{a=b}", "&|}");
        stand("0:{a=b&!c=b}", "&|;");
        stand("0:a=b&{a=b|b=c}", "&|;");
    }

    /** With twelve open none of ! - ( { [ can stand any more. */
    private static void standAtTwelve() {
        says("Terms: FAULT: .. (a thirteenth one of these");
        for (String twelve : new String[] {"0:" + "!".repeat(12), "0:" + "{".repeat(12), "0:" + "!{".repeat(6),
            "0:" + "-".repeat(12), "0:;" + "(".repeat(12), "0:;;;" + "t[".repeat(12), "0:;;;;" + "-(".repeat(6),
            "0:!{-(t[" + "-".repeat(7), "0:" + "!".repeat(6) + "a=" + "(".repeat(6),
            "0:a=b;a;1;a;" + "-t[".repeat(6)}) {
            stand(twelve, FACTOR_OF_TWELVE);
            stand(twelve + "t", "");
            stand(twelve + "r.t", "");
            stand(twelve + "r.", "rabcnit");
        }
        stand("0:" + "!".repeat(12) + "a=", FACTOR_OF_TWELVE);
        stand("0:" + "!".repeat(12) + "a+", FACTOR_OF_TWELVE);
        stand("0:" + "!".repeat(11) + "a=", FACTOR);
        stand("0:" + "!".repeat(12) + "a=b&", TEST);
        stand("0:" + "-".repeat(12) + "a+", FACTOR);
        stand("0:" + "{".repeat(12) + "a=b&", FACTOR_OF_TWELVE);
        stand("0:" + "{".repeat(12) + "a=b}&", TEST);
    }

    private static void tooEarly() {
        says("Terms: FAULT: .. the length of the TAPE, if it ends too early");
        for (String text : new String[] {"0:;;;;", "3:{a=b|!r.t[0]#-1}&(c)>n;a*2;12;r.i%3;",
            "1:!{!{a<1}};t[t[n-1]];9;-(-a);", "2:r.r.r.r.a=123456789;;;;"}) {
            for (int length = 0; length < text.length(); length++) {
                bad(text.substring(0, length), length);
            }
            good(text);
        }
        bad("0:;;;;a+", 8);
        bad("0:;;;;r", 7);
        bad("0:;;;;r.", 8);
        bad("0:;;;;t", 7);
        bad("0:;;;;t[", 8);
        bad("0:;;;;t[0", 9);
        bad("0:;;;;(a", 8);
        bad("0:;;;;-", 7);
        for (int length = 8; length <= 80; length++) {
            bad(unfinished(length), length);
        }
    }
}
