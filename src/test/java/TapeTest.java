/** Promises 8 and 9: typing, and which texts are queries; where the fault of the others is. */
public final class TapeTest {
    private static final Checks checks = new Checks();

    public static void main(String[] args) {
        type();
        fullTape();
        queries();
        faults();
        openOnes();
        sixQueries();
        checks.end();
    }

    private static String times(String text, int n) {
        return text.repeat(n);
    }

    /** Is a query, of a fresh object. */
    private static void good(String text) {
        checks.due("P9 " + text, Checks.ask(new LiveQueries(), text), 0);
    }

    private static void bad(String text, int place) {
        checks.due("P9 " + text, Checks.ask(new LiveQueries(), text), -1 - place);
    }

    private static void type() {
        LiveQueries x = new LiveQueries();
        checks.due("P8 n 0", x.type(Checks.word("0:"), 0), false);
        checks.due("P8 n 9", x.type(Checks.word("AAAAAAAA"), 9), false);
        checks.due("P8 n -1", x.type(Checks.word("0:"), -1), false);
        checks.due("P8 least n", x.type(Checks.word("0:"), Integer.MIN_VALUE), false);
        checks.due("P8 greatest n", x.type(Checks.word("0:"), Integer.MAX_VALUE), false);
        checks.due("P8 byte 32", x.type(Checks.word("0 "), 2), false);
        checks.due("P8 byte 127", x.type(Checks.word("0\u007f"), 2), false);
        checks.due("P8 byte 0", x.type(Checks.word("0:"), 3), false);
        checks.due("P8 byte 255", x.type(-1L, 8), false);
        checks.due("P8 a bad one in the middle", x.type(Checks.word("0\u00ff:"), 3), false);
        checks.due("P8 those above do not count", x.type(Checks.word("\u00ff\u0000" + "0:"), 2), true);
        checks.due("P8 the highest first", x.type(Checks.word(";;;;a+1"), 7), true);
        checks.due("P8 it is what was typed", x.query(), 0);
        checks.due("P8 33 and 126", x.type(Checks.word("!~!~!~!~"), 8), true);
        checks.due("P8 33 can't begin a query", x.query(), -1);
        checks.due("P8 the tape was emptied", x.query(), -1);
        checks.due("P8 type", Checks.type(x, "3:;;;;"), true);
        checks.due("P8 query", x.query(), 1);
    }

    private static void fullTape() {
        LiveQueries x = new LiveQueries();
        String text = "0:;;;;" + times("1+", 36) + "1";
        checks.due("P8 79 characters", Checks.type(x, text), true);
        checks.due("P8 two more", x.type(Checks.word("23"), 2), false);
        checks.due("P8 one more", x.type(Checks.word("2"), 1), true);
        checks.due("P8 81st", x.type(Checks.word("3"), 1), false);
        checks.due("P9 all 80", x.query(), 0);
        x.object(0);
        checks.due("P9 all 80 count", x.group(0, 0, 2), 36 + 12);
        checks.due("P8 80 again", Checks.type(x, times("0", 80)), true);
        checks.due("P9 fault at 1", x.query(), -2);
        Checks.type(x, times("0:;;;;-1", 10));
        checks.due("P9 fault at 9", x.query(), -10);
        Checks.type(x, "0:;;;;" + times("1+", 37));
        checks.due("P9 fault at 80", x.query(), -81);
    }

    private static void queries() {
        good("0:;;;;");
        good("3:;;00;;");
        good("0:;;99;;");
        good("1:a=b;c;9;n;i");
        good("1:a=b&c#n|i<t[0]&!a>b;;;;");
        good("2:{a=b};;;;");
        good("2:!!{!a=b|{c=1}&b=2};;;;");
        good("2:r.r.r.a=r.t[r.t[0]+1]*2%3/4-5;;;;");
        good("0:(a)=-(-1);;;;");
        good("0:a--b=-a*-b;;;;");
        good("0:;123456789;;000000000;0");
    }

    private static void faults() {
        bad("", 0);
        bad("4:;;;;", 0);
        bad(":;;;;", 0);
        bad("a", 0);
        bad("0", 1);
        bad("01:;;;;", 1);
        bad("0;", 1);
        bad("0:", 2);
        bad("0:=", 2);
        bad("0:;", 3);
        bad("0:;;", 4);
        bad("0:;;;", 5);
        bad("0:;;;;;", 6);
        bad("0:;;100;;", 6);
        bad("0:;;1a;;", 5);
        bad("0:;;-1;;", 4);
        bad("0:a;;;;", 3);
        bad("0:a", 3);
        bad("0:a=", 4);
        bad("0:a=b", 5);
        bad("0:a=;;;;", 4);
        bad("0:a=b=c;;;;", 5);
        bad("0:a=b&;;;;", 6);
        bad("0:a=b||a=b;;;;", 6);
        bad("0:(a=b);;;;", 4);
        bad("0:{a};;;;", 4);
        bad("0:{};;;;", 3);
        bad("0:{a=b;;;;", 6);
        bad("0:a=b};;;;", 5);
        bad("0:(a))=b;;;;", 5);
        bad("0:(a];;;;", 4);
        bad("0:t[a)=1;;;;", 5);
        bad("0:t;;;;", 3);
        bad("0:t[];;;;", 4);
        bad("0:r;;;;", 3);
        bad("0:ra=1;;;;", 3);
        bad("0:r.=1;;;;", 4);
        bad("0:r.5=1;;;;", 4);
        bad("0:r.(a)=1;;;;", 4);
        bad("0:d=1;;;;", 2);
        bad("0:a.b=1;;;;", 3);
        bad("0:5a=1;;;;", 3);
        bad("0:ab=1;;;;", 3);
        bad("0:+1=1;;;;", 2);
        bad("0:1*/1=1;;;;", 4);
        bad("0:!;;;;", 3);
        bad("0:-!a=1;;;;", 3);
        bad("0:a=!b;;;;", 4);
        bad("0:;a=b;;;", 4);
        bad("0:;!a;;;", 3);
        bad("0:;{a};;;", 3);
        bad("0:;;;a<b;", 6);
        bad("0:;;;;a|b", 7);
        bad("0:;;;;a+", 8);
        bad("0:;;;;t[a", 9);
        bad("0:1234567890=1;;;;", 11);
        bad("0:;;;;0000000000", 15);
        bad("0:;;;;1~", 7);
    }

    private static void openOnes() {
        good("0:;;;;" + times("-", 12) + "a");
        bad("0:;;;;" + times("-", 13) + "a", 18);
        good("0:;;;;" + times("(", 12) + "a" + times(")", 12));
        bad("0:;;;;" + times("(", 13) + "a" + times(")", 13), 18);
        good("0:" + times("{", 12) + "a=1" + times("}", 12) + ";;;;");
        bad("0:" + times("{", 13) + "a=1" + times("}", 13) + ";;;;", 14);
        good("0:" + times("!", 12) + "a=1;;;;");
        bad("0:" + times("!", 13) + "a=1;;;;", 14);
        good("0:;;;;" + times("t[", 12) + "a" + times("]", 12));
        bad("0:;;;;" + times("t[", 13) + "a" + times("]", 13), 31);
        good("0:!{!{-(-(-t[-t[a]])" + ")=1}};;;;");
        good("0:" + times("!{", 3) + times("-(", 2) + "-t[0]" + times(")", 2) + "=1" + times("}", 3) + ";;;;");
        bad("0:" + times("!{", 5) + "-(-a)=1" + times("}", 5) + ";;;;", 14);
        good("0:" + times("!{", 5) + "-(a)=-(a)" + times("}", 5) + ";;;;");
        // What was open has ended again, and - between two terms never was.
        good("0:;;;;" + times("-a", 30));
        good("0:;;;;1-" + times("-", 12) + "a-" + times("-", 12) + "a");
        good("0:!" + times("-", 11) + "a=" + times("-", 11) + "a&!" + times("-", 11) + "a=" + "1;;;;");
        bad("0:!" + times("-", 11) + "a=" + times("-", 12) + "a;;;;", 27);
        good("0:;;;;1-" + times("(", 12) + "1-1" + times(")", 12));
        good("0:;;;;(a)*(a)*(a)*(a)*(a)*(a)*(a)*(a)*(a)*(a)*(a)*(a)*(a)*(a)");
    }

    private static void sixQueries() {
        LiveQueries x = new LiveQueries();
        for (int q = 0; q < 6; q++) {
            checks.due("P9 a fault takes no number", Checks.ask(x, "0:;"), -4);
            checks.due("P9 number", Checks.ask(x, q % 2 + ":;;;;"), q);
        }
        x.object(0);
        checks.due("P9 differences", x.differ(2, 0), 4);
        Checks.type(x, "0:;;;;");
        checks.dueFull("P9 seventh", x::query);
        checks.dueFull("P9 asked before any fault", x::query);
        checks.due("P9 the tape is empty then", Checks.type(x, times("0", 80)), true);
        checks.dueFull("P9 seventh again", x::query);
        checks.due("P9 empty again", Checks.type(x, times("0", 80)), true);
        checks.due("P9 differences stay", x.differ(2, 0), 4);
        checks.due("P9 no query 6", x.size(6, 0), -1);
    }
}
