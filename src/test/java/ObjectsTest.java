/** Promises 1 to 7 and 16: the objects, their parts, and what is told of them. */
public final class ObjectsTest {
    private static final int NONE = LiveQueries.NONE;
    private static final Checks checks = new Checks();

    public static void main(String[] args) {
        newObject();
        object();
        put();
        refer();
        row();
        item();
        drop();
        look();
        failedCallsAreNoChange();
        checks.end();
    }

    /** How many differences the last change made. */
    private static int differences(LiveQueries x) {
        int k = 0;
        while (x.differ(k, 0) != NONE) {
            k++;
        }
        return k;
    }

    private static void newObject() {
        LiveQueries x = new LiveQueries();
        checks.due("P1 NONE", LiveQueries.NONE, -1);
        for (int what = 0; what < 3; what++) {
            checks.due("P1 size", x.size(0, what), NONE);
            checks.due("P1 differ", x.differ(0, what), NONE);
        }
        checks.due("P1 got", x.got(0, 0), NONE);
        checks.due("P1 uses", x.uses(0, 0), NONE);
        checks.dueMissing("P1 look", () -> x.look(0, 0));
        checks.dueMissing("P1 key", () -> x.key(0, 0));
        checks.dueMissing("P1 group", () -> x.group(0, 0, 0));
        checks.due("P1 the tape is empty", x.query(), -1);
        LiveQueries other = new LiveQueries();
        other.object(1);
        checks.dueMissing("P1 two of them share nothing", () -> x.look(0, 0));
    }

    private static void object() {
        LiveQueries x = new LiveQueries();
        checks.due("P2 query", Checks.ask(x, "2:;;;;"), 0);
        checks.due("P2 kind -1", x.object(-1), NONE);
        checks.due("P2 kind 4", x.object(4), NONE);
        checks.due("P2 least kind", x.object(Integer.MIN_VALUE), NONE);
        checks.due("P2 greatest kind", x.object(Integer.MAX_VALUE), NONE);
        for (int n = 0; n < 60; n++) {
            checks.due("P2 object", x.object(n % 4), n);
            checks.due("P2 differences", differences(x), n % 4 == 2 ? 1 : 0);
            checks.due("P2 rows", x.size(0, 1), (n + 2) / 4);
        }
        checks.due("P2 last one differs not", x.differ(0, 0), NONE);
        checks.due("P2 61st", x.object(0), NONE);
        checks.due("P2 drop", x.drop(2), 1);
        checks.due("P2 61st after a drop", x.object(2), NONE);
        checks.due("P2 that was no change", x.differ(0, 1), 2);
        checks.due("P2 kind", x.look(59, 5), 3);
        for (int what = 0; what < 5; what++) {
            checks.due("P2 at first", x.look(59, what), what == 3 ? NONE : 0);
        }
    }

    private static void put() {
        LiveQueries x = new LiveQueries();
        x.object(0);
        x.object(0);
        Checks.ask(x, "0:a>b;;;;");
        Checks.ask(x, "0:c=a;;;;");
        checks.due("P3 a", x.put(0, 0, 7), 2);
        checks.due("P3 b", x.put(0, 1, 6), 0);
        checks.due("P3 c", x.put(0, 2, 7), 1);
        checks.due("P3 the same again", x.put(0, 2, 7), 0);
        checks.due("P3 no differences are left", x.differ(0, 0), NONE);
        checks.due("P3 b is above", x.put(0, 1, Long.MAX_VALUE), 1);
        checks.due("P3 a", x.look(0, 0), 7);
        checks.due("P3 b", x.look(0, 1), Long.MAX_VALUE);
        checks.due("P3 c", x.look(0, 2), 7);
        checks.due("P3 the other's a", x.look(1, 0), 0);
        checks.due("P3 part -1", x.put(0, -1, 1), NONE);
        checks.due("P3 part 3", x.put(0, 3, 1), NONE);
        checks.due("P3 object -1", x.put(-1, 0, 1), NONE);
        checks.due("P3 object 2", x.put(2, 0, 1), NONE);
        checks.due("P3 object 60", x.put(60, 0, 1), NONE);
        checks.due("P3 greatest object", x.put(Integer.MAX_VALUE, 0, 1), NONE);
        checks.due("P3 greatest part", x.put(0, Integer.MAX_VALUE, 1), NONE);
        x.drop(1);
        checks.due("P3 dropped", x.put(1, 0, 1), NONE);
    }

    private static void refer() {
        LiveQueries x = new LiveQueries();
        x.object(0);
        x.object(1);
        x.object(1);
        Checks.ask(x, "0:r.a=5;;;;");
        x.put(1, 0, 5);
        checks.due("P4 refer", x.refer(0, 1), 1);
        checks.due("P4 look", x.look(0, 3), 1);
        checks.due("P4 refer to another", x.refer(0, 2), 1);
        checks.due("P4 went", x.differ(0, 2), 0);
        checks.due("P4 back", x.refer(0, 1), 1);
        checks.due("P4 to none", x.refer(0, NONE), 1);
        checks.due("P4 look none", x.look(0, 3), NONE);
        checks.due("P4 to -2", x.refer(0, -2), NONE);
        checks.due("P4 to 3", x.refer(0, 3), NONE);
        checks.due("P4 of 3", x.refer(3, 0), NONE);
        checks.due("P4 of NONE", x.refer(NONE, 0), NONE);
        checks.due("P4 to itself", x.refer(0, 0), 0);
        checks.due("P4 to itself look", x.look(0, 3), 0);
        checks.due("P4 to itself, a", x.put(0, 0, 5), 1);
        x.drop(2);
        checks.due("P4 to a dropped one", x.refer(0, 2), NONE);
        checks.due("P4 of a dropped one", x.refer(2, 0), NONE);
        checks.due("P4 of a dropped one to none", x.refer(2, NONE), NONE);
        checks.due("P4 stays", x.look(0, 3), 0);
    }

    private static void row() {
        LiveQueries x = new LiveQueries();
        x.object(3);
        Checks.ask(x, "3:n>2;;;;");
        checks.due("P5 three", x.row(0, 3), 1);
        checks.due("P5 length", x.look(0, 4), 3);
        for (int i = 0; i < 3; i++) {
            checks.due("P5 zero", x.look(0, 10 + i), 0);
            x.item(0, i, 100 + i);
        }
        checks.due("P5 eight", x.row(0, 8), 0);
        for (int i = 0; i < 8; i++) {
            checks.due("P5 kept", x.look(0, 10 + i), i < 3 ? 100 + i : 0);
        }
        checks.due("P5 two", x.row(0, 2), 1);
        checks.due("P5 four", x.row(0, 4), 1);
        for (int i = 0; i < 4; i++) {
            checks.due("P5 cut off", x.look(0, 10 + i), i < 2 ? 100 + i : 0);
        }
        checks.due("P5 nine", x.row(0, 9), NONE);
        checks.due("P5 minus one", x.row(0, -1), NONE);
        checks.due("P5 greatest", x.row(0, Integer.MAX_VALUE), NONE);
        checks.due("P5 stays", x.look(0, 4), 4);
        checks.due("P5 object 1", x.row(1, 2), NONE);
        checks.due("P5 object -1", x.row(-1, 2), NONE);
        checks.due("P5 none", x.row(0, 0), 1);
        checks.dueMissing("P5 no places", () -> x.look(0, 10));
        x.drop(0);
        checks.due("P5 dropped", x.row(0, 1), NONE);
    }

    private static void item() {
        LiveQueries x = new LiveQueries();
        x.object(0);
        x.object(0);
        Checks.ask(x, "0:t[1]=r.t[0];;;;");
        x.row(0, 2);
        x.row(1, 1);
        checks.due("P6 refer", x.refer(0, 1), 1);
        checks.due("P6 item of itself", x.item(0, 1, Long.MIN_VALUE), 1);
        checks.due("P6 item of the other", x.item(1, 0, Long.MIN_VALUE), 1);
        checks.due("P6 look", x.look(0, 11), Long.MIN_VALUE);
        checks.due("P6 other place", x.look(0, 10), 0);
        checks.due("P6 place 2", x.item(0, 2, 1), NONE);
        checks.due("P6 place 1 of the other", x.item(1, 1, 1), NONE);
        checks.due("P6 place -1", x.item(0, -1, 1), NONE);
        checks.due("P6 least place", x.item(0, Integer.MIN_VALUE, 1), NONE);
        checks.due("P6 object 2", x.item(2, 0, 1), NONE);
        checks.due("P6 object -1", x.item(-1, 0, 1), NONE);
        x.drop(1);
        checks.due("P6 dropped", x.item(1, 0, 1), NONE);
    }

    private static void drop() {
        LiveQueries x = new LiveQueries();
        for (int n = 0; n < 4; n++) {
            x.object(0);
        }
        for (int n = 1; n < 4; n++) {
            x.refer(n, 0);
        }
        Checks.ask(x, "0:;;;;");
        Checks.ask(x, "0:r.a=0;;;;");
        checks.due("P7 in", x.size(1, 1), 3);
        checks.due("P7 drop", x.drop(0), 4);
        checks.due("P7 first query", x.differ(0, 0), 0);
        checks.due("P7 its own row", x.differ(0, 1), 0);
        for (int k = 1; k < 4; k++) {
            checks.due("P7 second query", x.differ(k, 0), 1);
            checks.due("P7 who referred to it", x.differ(k, 1), k);
            checks.due("P7 went", x.differ(k, 2), 0);
            checks.due("P7 as none", x.look(k, 3), NONE);
        }
        checks.due("P7 again", x.drop(0), NONE);
        checks.due("P7 object 4", x.drop(4), NONE);
        checks.due("P7 object -1", x.drop(-1), NONE);
        checks.due("P7 those were no changes", differences(x), 4);
        checks.due("P7 rows", x.size(0, 1), 3);
        checks.dueMissing("P7 look", () -> x.look(0, 0));
        checks.due("P7 numbers do not come again", x.object(0), 4);
    }

    private static void look() {
        LiveQueries x = new LiveQueries();
        x.object(2);
        x.put(0, 0, -1);
        x.put(0, 1, -2);
        x.put(0, 2, -3);
        x.row(0, 8);
        x.item(0, 7, -4);
        checks.due("P16 a", x.look(0, 0), -1);
        checks.due("P16 b", x.look(0, 1), -2);
        checks.due("P16 c", x.look(0, 2), -3);
        checks.due("P16 r", x.look(0, 3), NONE);
        checks.due("P16 n", x.look(0, 4), 8);
        checks.due("P16 kind", x.look(0, 5), 2);
        checks.due("P16 place 7", x.look(0, 17), -4);
        for (int what : new int[] {-1, 6, 7, 8, 9, 18, Integer.MIN_VALUE, Integer.MAX_VALUE}) {
            checks.dueMissing("P16 what " + what, () -> x.look(0, what));
        }
        for (int object : new int[] {-1, 1, 60, Integer.MIN_VALUE, Integer.MAX_VALUE}) {
            checks.dueMissing("P16 object " + object, () -> x.look(object, 0));
            checks.dueMissing("P16 place of object " + object, () -> x.look(object, 10));
        }
        x.drop(0);
        checks.dueMissing("P16 dropped", () -> x.look(0, 5));
        checks.dueMissing("P16 place of a dropped one", () -> x.look(0, 17));
    }

    private static void failedCallsAreNoChange() {
        LiveQueries x = new LiveQueries();
        Checks.ask(x, "0:;;;;");
        x.object(0);
        x.object(7);
        x.put(0, 9, 1);
        x.put(5, 0, 1);
        x.refer(0, 5);
        x.row(0, 9);
        x.item(0, 0, 1);
        x.drop(3);
        checks.due("no change: the query", x.differ(0, 0), 0);
        checks.due("no change: the object", x.differ(0, 1), 0);
        checks.due("no change: it came", x.differ(0, 2), 1);
        checks.due("a change", x.refer(0, NONE), 0);
        checks.due("a change takes differences away", x.differ(0, 0), NONE);
    }
}
