/** Each sentence on OBJECTS that names an edge has a test of its own here: Terms, promises 1 to 7 and 16. */
public final class EdgesOfObjectsTest {
    private static final int NONE = LiveQueries.NONE;
    private static final Checks checks = new Checks();

    public static void main(String[] args) {
        terms();
        newObject();
        object();
        put();
        refer();
        row();
        item();
        drop();
        look();
        checks.end();
    }

    private static void says(String sentence) {
        checks.says(sentence);
    }

    // Terms

    private static void terms() {
        numbersAsTheyCome();
        kinds();
        partsAreLongs();
        referenceOrNone();
        rowOfZeroToEight();
        atFirst();
        droppedIsThereNoMore();
        droppedIsAsNone();
    }

    private static void numbersAsTheyCome() {
        says("Terms: OBJECTS are 0, 1, .. as they come (60 at most)");
        LiveQueries x = new LiveQueries();
        for (int n = 0; n < 60; n++) {
            checks.due("object", x.object(n % 4), n);
            checks.due("object -1 between", x.object(-1), NONE);
        }
        checks.due("the 61st", x.object(0), NONE);
        checks.due("the last one is as good as the first", x.put(59, 2, 7), 0);
        checks.due("c of the last one", x.look(59, 2), 7);
        checks.due("n of the last one", x.row(59, 8), 0);
        checks.due("place 7 of the last one", x.item(59, 7, 6), 0);
        checks.due("it", x.look(59, 17), 6);
        checks.due("c of the one before", x.look(58, 2), 0);
    }

    private static void kinds() {
        says("Terms: each of a KIND 0 .. 3");
        for (int kind = 0; kind < 4; kind++) {
            LiveQueries x = new LiveQueries();
            checks.due("object", x.object(kind), 0);
            checks.due("its kind", x.look(0, 5), kind);
            for (int asked = 0; asked < 4; asked++) {
                Checks.ask(x, asked + ":;;;;");
                checks.due("rows of kind " + asked, x.size(asked, 1), asked == kind ? 1 : 0);
            }
        }
    }

    private static void partsAreLongs() {
        says("Terms: with numbers a, b, c (longs)");
        for (int part = 0; part < 3; part++) {
            for (long v : Edges.LONGS) {
                LiveQueries x = Edges.of(1);
                Checks.ask(x, "0:;" + "abc".charAt(part) + ";;;");
                x.put(0, part, v);
                checks.due("looked at", x.look(0, part), v);
                checks.due("worked with", x.key(0, 0), v);
            }
        }
    }

    private static void referenceOrNone() {
        says("Terms: a reference r (to an OBJECT, or none)");
        LiveQueries x = Edges.of(60);
        for (int to : new int[] {0, 59, 30}) {
            checks.due("to " + to, x.refer(30, to), 0);
            checks.due("r", x.look(30, 3), to);
        }
        checks.due("to none", x.refer(30, NONE), 0);
        checks.due("r", x.look(30, 3), NONE);
    }

    private static void rowOfZeroToEight() {
        says("Terms: a ROW t of 0 to 8 longs");
        for (int n = 0; n <= 8; n++) {
            for (long v : Edges.LONGS) {
                LiveQueries x = Edges.of(1);
                checks.due("row " + n, x.row(0, n), 0);
                checks.due("its length", x.look(0, 4), n);
                if (n > 0) {
                    checks.due("its last place", x.item(0, n - 1, v), 0);
                    checks.due("holds", x.look(0, 9 + n), v);
                }
                checks.due("a place more", x.item(0, n, v), NONE);
            }
        }
    }

    private static void atFirst() {
        says("Terms: At first all are 0, r none, t empty.");
        LiveQueries x = new LiveQueries();
        for (int n = 0; n < 60; n++) {
            x.object(3);
            for (int what = 0; what < 5; what++) {
                checks.due("look " + what, x.look(n, what), what == 3 ? NONE : 0);
            }
        }
        checks.dueMissing("a first place of t", () -> x.look(59, 10));
        LiveQueries later = Edges.busy();
        checks.due("after a drop", later.object(1), 4);
        for (int what = 0; what < 5; what++) {
            checks.due("look after a drop " + what, later.look(4, what), what == 3 ? NONE : 0);
        }
    }

    private static void droppedIsThereNoMore() {
        says("Terms: An OBJECT that is DROPPED is there no more");
        LiveQueries x = Edges.of(3);
        x.row(1, 1);
        x.drop(1);
        checks.dueMissing("look", () -> x.look(1, 0));
        checks.dueMissing("a place", () -> x.look(1, 10));
        checks.due("put", x.put(1, 0, 1), NONE);
        checks.due("refer from it", x.refer(1, 0), NONE);
        checks.due("refer to it", x.refer(0, 1), NONE);
        checks.due("row", x.row(1, 1), NONE);
        checks.due("item", x.item(1, 0, 1), NONE);
        checks.due("drop", x.drop(1), NONE);
        checks.due("a query", Checks.ask(x, "0:;;;;"), 0);
        checks.due("rows", x.size(0, 1), 2);
        checks.due("the second row", x.got(0, 1), 2);
        checks.due("uses", x.uses(0, 1), NONE);
        checks.due("its number does not come again", x.object(0), 3);
    }

    private static void droppedIsAsNone() {
        says("Terms: and is as none for those that refer to it.");
        LiveQueries x = Edges.of(60);
        for (int n = 0; n < 60; n++) {
            x.refer(n, n == 20 ? 59 : 30);
        }
        Checks.ask(x, "0:r.i>-1;;;;");
        checks.due("its own row and 58 that refer to it", x.drop(30), 59);
        for (int n = 0; n < 60; n++) {
            int object = n;
            checks.due("r of " + n, Edges.answer(() -> x.look(object, 3)),
                n == 30 ? "NoSuchElementException" : n == 20 ? "59" : "-1");
        }
        checks.due("rows", x.size(0, 1), 1);
        checks.due("who refers to another", x.got(0, 0), 20);
        checks.due("another comes", x.object(0), NONE);
        checks.due("a new reference", x.refer(59, 0), 1);
        checks.due("it", x.look(59, 3), 0);
    }

    // Promises

    private static void newObject() {
        says("1: No OBJECTS");
        LiveQueries x = new LiveQueries();
        for (int object : Edges.with(Edges.FAR, -1, 0, 1, 59, 60)) {
            checks.dueMissing("look", () -> x.look(object, 0));
            checks.due("put", x.put(object, 0, 1), NONE);
            checks.due("refer", x.refer(object, NONE), NONE);
            checks.due("row", x.row(object, 0), NONE);
            checks.due("item", x.item(object, 0, 0), NONE);
            checks.due("drop", x.drop(object), NONE);
        }
        checks.due("rows of a query", Checks.ask(x, "0:;;;;"), 0);
        checks.due("size", x.size(0, 1), 0);
        checks.due("the first object", x.object(0), 0);
        says("1: no QUERIES.");
        LiveQueries y = Edges.of(1);
        for (int query : Edges.with(Edges.FAR, -1, 0, 1, 5, 6)) {
            checks.due("size", y.size(query, 0), NONE);
            checks.due("got", y.got(query, 0), NONE);
            checks.dueMissing("key", () -> y.key(query, 0));
            checks.dueMissing("group", () -> y.group(query, 0, 0));
            checks.due("uses", y.uses(query, 0), NONE);
        }
        checks.due("differ", y.differ(0, 0), NONE);
        checks.due("the first query", Checks.ask(y, "0:;;;;"), 0);
    }

    private static void object() {
        says("2: NONE (no CHANGE) if there is no such KIND");
        for (int kind : Edges.with(Edges.FAR, -1, 4, 5)) {
            Edges.refused(checks, "object(" + kind + ")", x -> x.object(kind));
        }
        says("2: or 60 came.");
        for (int kind = 0; kind < 4; kind++) {
            LiveQueries x = Edges.of(58);
            Checks.ask(x, "0:;;;;");
            checks.due("the 59th", x.object(kind), 58);
            checks.due("the 60th", x.object(0), 59);
            checks.due("the 61st", x.object(kind), NONE);
            checks.due("no CHANGE: it came", x.differ(0, 2), 1);
            checks.due("no CHANGE: the 60th", x.differ(0, 1), 59);
            checks.due("drop", x.drop(3), 1);
            checks.due("60 came, though there are 59", x.object(kind), NONE);
            checks.due("no CHANGE: it went", x.differ(0, 2), 0);
            checks.due("no CHANGE: the fourth", x.differ(0, 1), 3);
            checks.due("rows", x.size(0, 1), kind == 0 ? 59 : 58);
            int k = kind;
            Edges.refusedByFull(checks, "object(" + kind + ")", y -> y.object(k));
        }
    }

    private static void put() {
        says("3: a, b, c (part 0, 1, 2) of an OBJECT that is there becomes v");
        for (int part = 0; part < 3; part++) {
            LiveQueries x = Edges.of(60);
            for (int object : new int[] {0, 59}) {
                checks.due("put", x.put(object, part, 77), 0);
                for (int what = 0; what < 3; what++) {
                    checks.due("look", x.look(object, what), what == part ? 77 : 0);
                }
            }
            for (int what = 0; what < 3; what++) {
                checks.due("of the next", x.look(1, what), 0);
                checks.due("of the one before", x.look(58, what), 0);
            }
        }
        says("3: how many DIFFERENCES.");
        checks.due("none without queries", Edges.of(1).put(0, 0, 1), 0);
        checks.due("of all rows of all queries", EdgesOfChangesTest.mostGoing().put(0, 0, 1), 360);
        says("3: NONE (no CHANGE) if there is none such.");
        for (int part = 0; part < 3; part++) {
            for (int object : Edges.NOT_THERE) {
                int p = part;
                Edges.refused(checks, "put(" + object + ", " + part + ")", x -> x.put(object, p, 1));
            }
        }
        for (int part : Edges.with(Edges.FAR, -1, 3, 4)) {
            for (int object : new int[] {0, 1, 3}) {
                Edges.refused(checks, "put(" + object + ", " + part + ")", x -> x.put(object, part, 1));
            }
            Edges.refusedByFull(checks, "put(59, " + part + ")", x -> x.put(59, part, 1));
        }
        Edges.refusedByFull(checks, "put(60, 0)", x -> x.put(60, 0, 1));
        Edges.refusedByFull(checks, "put(61, 2)", x -> x.put(61, 2, 1));
    }

    private static void refer() {
        says("4: r of an OBJECT becomes another one (NONE: none): likewise.");
        LiveQueries x = Edges.of(3);
        Checks.ask(x, "0:r.i>0;;;;");
        checks.due("to the first", x.refer(1, 0), 0);
        checks.due("to the last", x.refer(1, 2), 1);
        checks.due("to the same again", x.refer(1, 2), 0);
        checks.due("to itself", x.refer(1, 1), 0);
        checks.due("it", x.look(1, 3), 1);
        checks.due("to none", x.refer(1, NONE), 1);
        checks.due("to none again", x.refer(1, NONE), 0);
        checks.due("none", x.look(1, 3), NONE);
        says("4: NONE (no CHANGE) if one of them is not there.");
        for (int none : Edges.NOT_THERE) {
            Edges.refused(checks, "refer(" + none + ", 0)", y -> y.refer(none, 0));
            Edges.refused(checks, "refer(" + none + ", NONE)", y -> y.refer(none, NONE));
            Edges.refused(checks, "refer(" + none + ", " + none + ")", y -> y.refer(none, none));
            if (none != NONE) {
                Edges.refused(checks, "refer(0, " + none + ")", y -> y.refer(0, none));
                Edges.refused(checks, "refer(3, " + none + ")", y -> y.refer(3, none));
            }
        }
        Edges.refusedByFull(checks, "refer(60, 0)", y -> y.refer(60, 0));
        Edges.refusedByFull(checks, "refer(60, NONE)", y -> y.refer(60, NONE));
        Edges.refusedByFull(checks, "refer(0, 60)", y -> y.refer(0, 60));
    }

    /** A row of n places that hold 1, 2, .., then one of so many more or less. */
    private static LiveQueries stretched(int n, int to) {
        LiveQueries x = Edges.of(3);
        for (int object = 0; object < 3; object++) {
            x.row(object, n);
            for (int i = 0; i < n; i++) {
                x.item(object, i, i + 1);
            }
        }
        checks.due("row", x.row(1, to), 0);
        return x;
    }

    private static void row() {
        says("5: t of an OBJECT has n (0 .. 8) longs from now on: those that were at these places, else 0: likewise.");
        for (int n = 0; n <= 8; n++) {
            for (int to = 0; to <= 8; to++) {
                LiveQueries x = stretched(n, to);
                checks.due("n", x.look(1, 4), to);
                for (int i = 0; i < to; i++) {
                    checks.due(n + " to " + to + ", place " + i, x.look(1, 10 + i), i < n ? i + 1 : 0);
                }
                int behind = 10 + to;
                checks.dueMissing("a place more", () -> x.look(1, behind));
                x.row(1, 8);
                for (int i = 0; i < 8; i++) {
                    checks.due("then to 8, place " + i, x.look(1, 10 + i), i < Math.min(n, to) ? i + 1 : 0);
                }
                for (int i = 0; i < n; i++) {
                    checks.due("of the one before", x.look(0, 10 + i), i + 1);
                    checks.due("of the next", x.look(2, 10 + i), i + 1);
                }
            }
        }
        LiveQueries counted = Edges.of(2);
        Checks.ask(counted, "0:n>7;;;;");
        checks.due("seven", counted.row(1, 7), 0);
        checks.due("eight", counted.row(1, 8), 1);
        checks.due("eight again", counted.row(1, 8), 0);
        checks.due("none", counted.row(1, 0), 1);
        says("5: NONE (no CHANGE) if there is none such.");
        for (int object : Edges.NOT_THERE) {
            for (int n : new int[] {0, 1, 8}) {
                Edges.refused(checks, "row(" + object + ", " + n + ")", x -> x.row(object, n));
            }
        }
        for (int n : Edges.with(Edges.FAR, -1, 9, 10, 16)) {
            for (int object : new int[] {0, 1, 3}) {
                Edges.refused(checks, "row(" + object + ", " + n + ")", x -> x.row(object, n));
            }
            Edges.refusedByFull(checks, "row(59, " + n + ")", x -> x.row(59, n));
        }
        Edges.refusedByFull(checks, "row(60, 0)", x -> x.row(60, 0));
        Edges.refusedByFull(checks, "row(60, 8)", x -> x.row(60, 8));
    }

    private static void item() {
        says("6: Place i of t of an OBJECT becomes v: likewise.");
        for (int i = 0; i < 8; i++) {
            LiveQueries x = Edges.of(2);
            x.row(0, 8);
            x.row(1, 8);
            Checks.ask(x, "0:t[" + i + "]=9;;;;");
            checks.due("of the first", x.item(0, i, 9), 1);
            checks.due("of the other", x.item(1, i, 9), 1);
            checks.due("the same again", x.item(1, i, 9), 0);
            for (int what = 0; what < 8; what++) {
                checks.due("look", x.look(0, 10 + what), what == i ? 9 : 0);
                checks.due("look at the other", x.look(1, 10 + what), what == i ? 9 : 0);
            }
        }
        says("6: NONE (no CHANGE) if there is none such.");
        for (int object : Edges.NOT_THERE) {
            for (int i : new int[] {0, 1, 7}) {
                Edges.refused(checks, "item(" + object + ", " + i + ")", x -> x.item(object, i, 1));
            }
        }
        for (int i : Edges.with(Edges.FAR, -1, 8, 9)) {
            for (int object : new int[] {0, 1, 3}) {
                Edges.refused(checks, "item(" + object + ", " + i + ")", x -> x.item(object, i, 1));
            }
        }
        Edges.refused(checks, "the place behind three", x -> x.item(0, 3, 1));
        Edges.refused(checks, "the last of eight, of three", x -> x.item(0, 7, 1));
        Edges.refused(checks, "the first place of none", x -> x.item(3, 0, 1));
        Edges.refusedByFull(checks, "item(59, 8)", x -> x.item(59, 8, 1));
        Edges.refusedByFull(checks, "item(0, -1)", x -> x.item(0, -1, 1));
        Edges.refusedByFull(checks, "item(60, 0)", x -> x.item(60, 0, 1));
    }

    private static void drop() {
        says("7: An OBJECT is DROPPED: likewise.");
        checks.due("none without queries", Edges.of(1).drop(0), 0);
        checks.due("its own row", EdgesOfChangesTest.mostGoing().drop(59), 6);
        checks.due("all rows of all queries", EdgesOfChangesTest.mostGoing().drop(0), 360);
        LiveQueries all = Edges.of(60);
        Checks.ask(all, "0:;;;;");
        for (int n = 59; n >= 0; n--) {
            checks.due("one after the other", all.drop(n), 1);
        }
        checks.due("no one is left", all.size(0, 1), 0);
        says("7: NONE (no CHANGE) if there is none such.");
        for (int object : Edges.NOT_THERE) {
            Edges.refused(checks, "drop(" + object + ")", x -> x.drop(object));
        }
        Edges.refusedByFull(checks, "drop(60)", x -> x.drop(60));
    }

    private static void look() {
        says("16: r (NONE without, also if that was DROPPED)");
        LiveQueries x = Edges.busy();
        checks.due("r", x.look(0, 3), 1);
        checks.due("r to a dropped one", x.look(3, 3), NONE);
        checks.due("r without", Edges.of(1).look(0, 3), NONE);
        says("16: how many longs t has");
        checks.due("three", x.look(0, 4), 3);
        checks.due("eight", x.look(1, 4), 8);
        checks.due("none", x.look(3, 4), 0);
        says("16: its KIND");
        checks.due("of 1", x.look(1, 5), 0);
        checks.due("of 3", x.look(3, 5), 1);
        says("16: 10 + i: place i of t.");
        checks.due("the last of eight", x.look(1, 17), 9);
        checks.due("the first of eight", x.look(1, 10), 0);
        checks.due("the second of three", x.look(0, 11), 8);
        says("16: NoSuchElementException: there is none such.");
        for (int what : new int[] {0, 3, 4, 5, 10, 11, 17}) {
            for (int object : Edges.NOT_THERE) {
                Edges.missing(checks, "look(" + object + ", " + what + ")", y -> y.look(object, what));
            }
        }
        for (int what : Edges.with(Edges.FAR, -1, 6, 7, 8, 9, 18, 19)) {
            for (int object : new int[] {0, 1, 3}) {
                Edges.missing(checks, "look(" + object + ", " + what + ")", y -> y.look(object, what));
            }
        }
        Edges.missing(checks, "the place behind three", y -> y.look(0, 13));
        Edges.missing(checks, "the last of eight, of three", y -> y.look(0, 17));
        Edges.missing(checks, "the first place of none", y -> y.look(3, 10));
        Edges.missingInFull(checks, "look(60, 0)", y -> y.look(60, 0));
        Edges.missingInFull(checks, "look(60, 10)", y -> y.look(60, 10));
        Edges.missingInFull(checks, "look(59, 18)", y -> y.look(59, 18));
    }
}
