/** Each sentence on CHANGES and DIFFERENCES that names an edge has a test of its own here: Terms, promise 14. */
public final class EdgesOfChangesTest {
    private static final int NONE = LiveQueries.NONE;
    private static final Checks checks = new Checks();

    public static void main(String[] args) {
        whatIsAChange();
        whatIsNone();
        byQueries();
        keptUntilTheNext();
        wentByNumbers();
        cameByNumbers();
        onlyWhatIsShown();
        most();
        differ();
        checks.end();
    }

    private static void says(String sentence) {
        checks.says(sentence);
    }

    /** Sixty rows in each of six queries, that go when a of 0 becomes another, or 0 is dropped. */
    static LiveQueries mostGoing() {
        LiveQueries x = Edges.of(60);
        for (int n = 0; n < 60; n++) {
            x.refer(n, 0);
        }
        for (int q = 0; q < 6; q++) {
            Checks.ask(x, "0:r.a=0;;;;");
        }
        return x;
    }

    /** Of 60 rows 30 are shown in each of six queries; they go, and the others come, when a of 0 becomes -1. */
    private static LiveQueries mostTurning() {
        LiveQueries x = Edges.of(60);
        for (int n = 0; n < 60; n++) {
            x.refer(n, 0);
        }
        for (int q = 0; q < 6; q++) {
            Checks.ask(x, "0:;r.a*i;30;;");
        }
        return x;
    }

    private static void due(LiveQueries x, String want) {
        StringBuilder all = new StringBuilder();
        int k = 0;
        for (; k < 400 && x.differ(k, 0) != NONE; k++) {
            all.append(k == 0 ? "" : " ").append(x.differ(k, 0)).append(x.differ(k, 2) == 1 ? "+" : "-");
            all.append(x.differ(k, 1));
        }
        checks.due("differences", all.toString(), want);
        checks.due("no more, object", x.differ(k, 1), NONE);
        checks.due("no more, came", x.differ(k, 2), NONE);
    }

    private static void ends(String name, Edges.Call change, long want) {
        LiveQueries x = Edges.busy();
        due(x, "0-2 0+0 1-2 2-3");
        checks.due(name, change.on(x), want);
        due(x, "");
    }

    private static void whatIsAChange() {
        says("Terms: A CHANGE is object(), put(), refer(), row(), item(), drop().");
        ends("an object of a kind that is not asked for", x -> x.object(3), 4);
        ends("put of what it is", x -> x.put(0, 0, 5), 0);
        ends("refer to whom it does", x -> x.refer(0, 1), 0);
        ends("refer to none as before", x -> x.refer(3, NONE), 0);
        ends("a row as long as it is", x -> x.row(0, 3), 0);
        ends("item of what it is", x -> x.item(0, 1, 8), 0);
        ends("drop of one that is in no query", x -> x.drop(3), 0);
    }

    private static void stays(String name, Edges.Call call) {
        LiveQueries x = Edges.busy();
        Edges.answer(() -> call.on(x));
        checks.due("after " + name, Edges.whole(x), Edges.whole(Edges.busy()));
    }

    private static void whatIsNone() {
        says("Terms: A CHANGE is object(), put(), refer(), row(), item(), drop() (and nothing else is)");
        stays("type", x -> x.type(Checks.word("0:"), 2) ? 1 : 0);
        stays("a refused type", x -> x.type(0, 2) ? 1 : 0);
        stays("query", x -> Checks.ask(x, "~"));
        for (int n = 0; n < 3; n++) {
            int what = n;
            stays("size", x -> x.size(0, what));
            stays("got", x -> x.got(0, what));
            stays("key", x -> x.key(0, what));
            stays("group", x -> x.group(0, 0, what));
            stays("differ", x -> x.differ(0, what));
            stays("uses", x -> x.uses(0, what));
            stays("look", x -> x.look(0, what));
        }
    }

    private static void byQueries() {
        says("Terms: For each QUERY, by numbers, the DIFFERENCES are kept");
        LiveQueries x = Edges.of(1);
        for (int q = 0; q < 6; q++) {
            Checks.ask(x, (q == 2 ? "1" : "0") + ":a=" + (q + 1) % 2 + ";;;;");
        }
        x.put(0, 0, 1);
        due(x, "0+0 1-0 3-0 4+0 5-0");
        x.put(0, 0, 0);
        due(x, "0-0 1+0 3+0 4-0 5+0");
        x.object(1);
        due(x, "");
        x.put(1, 0, 1);
        due(x, "2+1");
    }

    private static void keptUntilTheNext() {
        says("Terms: the DIFFERENCES are kept until the next CHANGE");
        LiveQueries x = Edges.of(2);
        Checks.ask(x, "0:a=0;;;;");
        due(x, "");
        x.put(0, 0, 1);
        due(x, "0-0");
        due(x, "0-0");
        Checks.ask(x, "0:a=0;;;;");
        due(x, "0-0");
        x.put(1, 0, 1);
        due(x, "0-1 1-1");
        x.put(1, 1, 1);
        due(x, "");
    }

    private static void wentByNumbers() {
        says("Terms: first the OBJECTS that were SHOWN and are not any more, by numbers");
        LiveQueries x = Edges.of(12);
        for (int n = 0; n < 12; n++) {
            x.refer(n, 11);
            x.put(n, 1, -n);
        }
        Checks.ask(x, "0:r.a=i/6;b;;;");
        checks.due("the last is the first row", x.got(0, 0), 5);
        checks.due("six go and six come", x.put(11, 0, 1), 12);
        due(x, "0-0 0-1 0-2 0-3 0-4 0-5 0+6 0+7 0+8 0+9 0+10 0+11");
        checks.due("six go and no one comes", x.put(11, 0, 2), 6);
        due(x, "0-6 0-7 0-8 0-9 0-10 0-11");
    }

    private static void cameByNumbers() {
        says("Terms: then those that are and were not.");
        LiveQueries x = Edges.of(12);
        for (int n = 0; n < 12; n++) {
            x.refer(n, 0);
            x.put(n, 1, -n);
        }
        Checks.ask(x, "0:r.a=1-i/6;b;;;");
        checks.due("the last is the first row", x.got(0, 0), 11);
        checks.due("those with less come", x.put(0, 0, 1), 12);
        due(x, "0-6 0-7 0-8 0-9 0-10 0-11 0+0 0+1 0+2 0+3 0+4 0+5");
        checks.due("no one goes and no one comes", x.put(0, 0, 1), 0);
        due(x, "");
        x.put(0, 0, 5);
        checks.due("no one goes and six come", x.put(0, 0, 0), 6);
        due(x, "0+6 0+7 0+8 0+9 0+10 0+11");
    }

    private static void onlyWhatIsShown() {
        says("Terms: the OBJECTS that were SHOWN and are not any more, .. then those that are and were not");
        LiveQueries x = Edges.of(4);
        Checks.ask(x, "0:a>-1;a;2;;");
        checks.due("one that is IN, but not SHOWN, goes", x.put(3, 0, -1), 0);
        checks.due("it is not IN any more", x.size(0, 1), 3);
        checks.due("and comes again", x.put(3, 0, 9), 0);
        checks.due("it is IN", x.size(0, 1), 4);
        checks.due("only another order of those SHOWN", x.put(0, 0, 1), 2);
        due(x, "0-0 0+2");
        checks.due("only another order", x.put(1, 0, 1), 2);
        due(x, "0-1 0+0");
        checks.due("another order of the two", x.put(2, 0, 1), 2);
        due(x, "0-2 0+1");
        checks.due("the first goes behind the second", x.put(0, 0, 1), 0);
        checks.due("as SHOWN as before", x.put(1, 0, 0), 0);
        checks.due("the order is another", x.got(0, 0), 1);
        checks.due("one goes, the next one comes", x.drop(1), 2);
        due(x, "0-1 0+2");
        checks.due("one that is not SHOWN is dropped", x.drop(3), 0);
        due(x, "");
        checks.due("an object comes and is first", x.object(0), 4);
        due(x, "0-2 0+4");
    }

    private static void most() {
        says("Terms: For each QUERY, by numbers, .. (six of sixty each, the most there can be)");
        for (int what = 0; what < 3; what++) {
            LiveQueries gone = mostGoing();
            checks.due("all go", gone.put(0, 0, 1), 360);
            LiveQueries turned = mostTurning();
            checks.due("30 go and 30 come", turned.put(0, 0, -1), 360);
            for (int k = 0; k < 360; k++) {
                int object = k % 60;
                checks.due("went " + k, gone.differ(k, what), what == 0 ? k / 60 : what == 1 ? object : 0);
                checks.due("turned " + k, turned.differ(k, what),
                    what == 0 ? k / 60 : what == 1 ? object : object / 30);
            }
            checks.due("no more went", gone.differ(360, what), NONE);
            checks.due("no more turned", turned.differ(360, what), NONE);
        }
    }

    private static void differ() {
        says("14: NONE if there is none such");
        for (int what = 0; what < 3; what++) {
            int w = what;
            for (int k : Edges.with(Edges.FAR, -1, 4, 5)) {
                Edges.refused(checks, "differ(" + k + ", " + what + ")", x -> x.differ(k, w));
            }
            checks.due("before any CHANGE", new LiveQueries().differ(0, what), NONE);
            checks.due("without queries", Edges.of(2).differ(0, what), NONE);
        }
        says("14: or for another what.");
        for (int what : Edges.with(Edges.FAR, -1, 3, 4)) {
            for (int n = 0; n < 5; n++) {
                int k = n;
                Edges.refused(checks, "differ(" + k + ", " + what + ")", x -> x.differ(k, what));
            }
        }
        says("14: what 0: the QUERY, 1: the OBJECT, 2: 1 if it came, 0 if it went.");
        LiveQueries x = Edges.busy();
        int[][] want = {{0, 2, 0}, {0, 0, 1}, {1, 2, 0}, {2, 3, 0}};
        for (int k = 0; k < 4; k++) {
            for (int what = 0; what < 3; what++) {
                checks.due("difference " + k, x.differ(k, what), want[k][what]);
            }
        }
    }
}
