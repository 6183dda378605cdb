import java.util.NoSuchElementException;
import java.util.function.LongSupplier;

/** What the tests of edges share: a busy object, all that it tells, and calls that it refuses. */
final class Edges {
    static final int NONE = LiveQueries.NONE;

    /** Far outside of all that can be asked for, and some whose low bits alone would be inside. */
    static final int[] FAR = {Integer.MIN_VALUE, Integer.MIN_VALUE + 1, -65536, -256, -60, -8, -2, 64, 100, 256, 65536,
        1 << 30, Integer.MAX_VALUE - 1, Integer.MAX_VALUE};

    /** Not there in a busy one: 2 is dropped, 4 did not come yet, 60 never comes. */
    static final int[] NOT_THERE = with(FAR, -1, 2, 4, 5, 59, 60, 61);

    static final long[] LONGS = {Long.MIN_VALUE, -1, 0, 1, Long.MAX_VALUE};

    /** A call of which an answer is due. */
    interface Call {
        long on(LiveQueries x);
    }

    private Edges() {
    }

    static int[] with(int[] some, int... others) {
        int[] all = java.util.Arrays.copyOf(some, some.length + others.length);
        System.arraycopy(others, 0, all, some.length, others.length);
        return all;
    }

    /** With all but a number of objects of kind 0. */
    static LiveQueries of(int objects) {
        LiveQueries x = new LiveQueries();
        for (int n = 0; n < objects; n++) {
            x.object(0);
        }
        return x;
    }

    /**
     * 0 and 1 of kind 0, 3 of kind 1, 2 (of kind 0) dropped just now, which made four differences: of query 0 object 2
     * went and 0 came, of query 1 object 2 went, of query 2 object 3 went.
     */
    static LiveQueries busy() {
        LiveQueries x = of(3);
        x.object(1);
        x.put(0, 0, 5);
        x.put(0, 1, Long.MIN_VALUE);
        x.put(1, 0, 6);
        x.put(1, 2, -6);
        x.put(2, 0, -1);
        x.put(3, 2, Long.MAX_VALUE);
        x.row(0, 3);
        x.item(0, 1, 8);
        x.row(1, 8);
        x.item(1, 7, 9);
        x.row(2, 2);
        x.refer(0, 1);
        x.refer(1, 3);
        x.refer(3, 2);
        x.refer(2, 0);
        Checks.ask(x, "0:;a;1;b;c");
        Checks.ask(x, "0:;;;;");
        Checks.ask(x, "1:r.a<r.b;c;;;");
        x.drop(2);
        return x;
    }

    /** Sixty objects with eight places each, in a ring of references, and six queries; a row went at last. */
    static LiveQueries full() {
        LiveQueries x = of(60);
        for (int n = 0; n < 60; n++) {
            x.refer(n, (n + 1) % 60);
            x.row(n, 8);
        }
        for (int q = 0; q < 6; q++) {
            Checks.ask(x, "0:a=0;r.t[7];;i;");
        }
        x.put(59, 0, 1);
        return x;
    }

    /** All that a busy one tells, and of a full one some. */
    static String whole(LiveQueries x) {
        StringBuilder all = new StringBuilder();
        for (int o = 0; o < 5; o++) {
            all.append("\nobject ").append(o).append(':');
            for (int w = 0; w < 14; w++) {
                int object = o;
                int what = w < 6 ? w : w + 4;
                all.append(' ').append(answer(() -> x.look(object, what)));
            }
        }
        for (int q = 0; q < 4; q++) {
            all.append("\nquery ").append(q).append(':');
            appendQuery(all, x, q);
        }
        all.append("\ndifferences:");
        for (int k = 0; k < 5; k++) {
            all.append(' ').append(x.differ(k, 0)).append('/').append(x.differ(k, 1));
            all.append('/').append(x.differ(k, 2));
        }
        return all.toString();
    }

    private static void appendQuery(StringBuilder all, LiveQueries x, int q) {
        for (int what = 0; what < 3; what++) {
            all.append(' ').append(x.size(q, what));
        }
        for (int n = 0; n < 4; n++) {
            int k = n;
            all.append(" row ").append(x.got(q, k)).append(' ').append(answer(() -> x.key(q, k)));
            all.append(" uses ").append(x.uses(q, k));
        }
        for (int n = 0; n < 12; n++) {
            int k = n / 4;
            int what = n % 4;
            all.append(what == 0 ? " group " : " ").append(answer(() -> x.group(q, k, what)));
        }
    }

    static String answer(LongSupplier call) {
        try {
            return Long.toString(call.getAsLong());
        } catch (IllegalStateException | NoSuchElementException e) {
            return e.getClass().getSimpleName();
        }
    }

    /** A call that a busy one refuses with NONE: all that it tells is as before. */
    static void refused(Checks checks, String name, Call call) {
        unchanging(checks, name, busy(), call, "-1", whole(busy()));
    }

    static void missing(Checks checks, String name, Call call) {
        unchanging(checks, name, busy(), call, "NoSuchElementException", whole(busy()));
    }

    static void refusedByFull(Checks checks, String name, Call call) {
        unchanging(checks, name, full(), call, "-1", whole(full()));
    }

    static void missingInFull(Checks checks, String name, Call call) {
        unchanging(checks, name, full(), call, "NoSuchElementException", whole(full()));
    }

    private static void unchanging(Checks checks, String name, LiveQueries x, Call call, String want, String whole) {
        checks.due(name, answer(() -> call.on(x)), want);
        checks.due("after " + name + " all", whole(x), whole);
    }
}
