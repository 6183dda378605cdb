import java.nio.file.Files;
import java.nio.file.Path;

/** The example of README.md, call by call, and that README.md names every call. */
public final class ReadmeTest {
    private static final Checks checks = new Checks();

    public static void main(String[] args) throws Exception {
        example();
        names(Files.readString(Path.of("README.md")));
        checks.end();
    }

    private static void example() {
        LiveQueries x = new LiveQueries();
        int shop = x.object(1);
        int order = x.object(0);
        checks.due("put", x.put(order, 0, 25), 0);
        checks.due("refer", x.refer(order, shop), 0);
        String text = "0:r.b=1;-a;3;r.i;a";
        for (int i = 0; i < text.length(); i++) {
            checks.due("type", x.type(text.charAt(i), 1), true);
        }
        int q = x.query();
        checks.due("query", q, 0);
        checks.due("the shop opens", x.put(shop, 1, 1), 1);
        checks.due("the order", x.differ(0, 1), order);
        checks.due("it came", x.differ(0, 2), 1);
        checks.due("got", x.got(q, 0), order);
        checks.due("key", x.key(q, 0), -25);
        checks.due("group", x.group(q, 0, 2), 25);
        checks.due("uses", x.uses(q, shop), 1);
        checks.due("0:;;;;", Checks.ask(x, "0:;;;;"), 1);
        checks.due("all of kind 0", x.size(1, 0), 1);
    }

    private static void names(String readme) {
        for (String call : new String[] {"object(kind)", "put(object, part, v)", "refer(object, to)", "row(object, n)",
            "item(object, i, v)", "drop(object)", "type(word, n)", "query()", "size(query, what)", "got(query, k)",
            "key(query, k)", "group(query, k, what)", "differ(k, what)", "uses(query, object)", "look(object, what)"}) {
            checks.due("README.md names " + call, readme.contains("| `" + call + "` |"), true);
        }
        checks.due("README.md tells how to run the tests", readme.contains("    .ci/run\n"), true);
        checks.due("README.md has the example", readme.contains("String text = \"0:r.b=1;-a;3;r.i;a\";"), true);
    }
}
