import java.util.Arrays;

/** The text at its edges: each sign in each place of each item, sizes one below, at and above what is told. */
public final class TextEdgesTest extends Bench {
    static final String RULE = "r00a*=a;";

    /** Items, and below each sign the signs that may stand in its place, row by row. */
    static final String[][] ITEMS = {
        {"t0=a;", "t", "012", "=", "ab", ";"},
        {"t1=ca;", "t", "012", "=", "c", "ab", ";"},
        {"t2=dab;", "t", "012", "=", "de", "ab", "ab", ";"},
        {"p00;", "p", "01", "0123", ";"},
        {"m0a=0;", "m", "01", "ab", "=", "01", ";"},
        {"m0c=00;", "m", "01", "c", "=", "01", "01", ";"},
        {"m1d=0000;", "m", "01", "de", "=", "01", "01", "01", "01", ";"},
        {"r00a*=a;", "r", "01", "012", "abcde", "01*", "=", "ab", ";"},
        {"r00a*=ca;", "r", "01", "012", "abcde", "01*", "=", "c", "ab", ";"},
        {"r00c*=0x;", "r", "01", "012", "cde", "01*", "=", "012", "x", ";"},
        {"r00d*=0y;", "r", "01", "012", "de", "01*", "=", "012", "xy", ";"},
        {"r00d*=0x;", "r", "01", "012", "cde", "01*", "=", "012", "xy", ";"},
        {"r12e1=d2yb;", "r", "01", "012", "de", "01*", "=", "de", "012", "xy", "ab", ";"},
    };

    static int faultOf(String text) {
        return told(text).fault();
    }

    static void eachSignInEachPlace() {
        for (String[] item : ITEMS) {
            String text = item[0];
            for (int at = 0; at < text.length(); at++) {
                for (char sign = 32; sign < 127; sign++) {
                    String other = text.substring(0, at) + sign + text.substring(at + 1);
                    boolean so = item[at + 1].indexOf(sign) >= 0;
                    due.is("fault " + other, faultOf(other), so ? NONE : 0);
                }
            }
        }
    }

    /** "each a letter, then what it tells, and a ; behind it": without any one of its signs, or with one more, it is none. */
    static void signsTooFewAndTooMany() {
        for (String[] item : ITEMS) {
            String text = item[0];
            for (int at = 0; at < text.length(); at++) {
                String less = text.substring(0, at) + text.substring(at + 1);
                boolean treeStill = text.charAt(at) == 'c' && text.indexOf('=') < at;
                due.is("fault " + less, faultOf(less), treeStill ? NONE : 0);
                due.is("fault " + RULE + less, faultOf(RULE + less), treeStill ? NONE : 8);
                String end = text.substring(0, at);
                due.is("fault " + RULE + end, faultOf(RULE + end), at == 0 ? NONE : 8);
            }
            due.is("fault " + text + ";", faultOf(text + ";"), text.length());
            due.is("fault " + text + " ", faultOf(text + " "), text.length());
            due.is("fault " + text + text, faultOf(text + text), NONE);
        }
    }

    /** "one figure for a, b; two for c; four for d, e". */
    static void valuesTold() {
        int[] has = {1, 1, 2, 4, 4};
        for (int f = 0; f < 5; f++) {
            for (int n = 0; n <= 5; n++) {
                String item = "m1" + (char) ('a' + f) + "=" + "1".repeat(n) + ";";
                due.is("fault " + item, faultOf(item), n == has[f] ? NONE : 0);
            }
        }
    }

    /** "the first letter of the first ITEM that is not so": of two wrong items the first, wherever in it it is wrong. */
    static void firstOfTwo() {
        due.is("two wrong", faultOf("t0=a;p09;t9=a;"), 5);
        due.is("wrong at its end", faultOf("t0=a;m0d=0002;x"), 5);
        due.is("the very first", faultOf("x;t0=a;"), 0);
        due.is("no item", faultOf(""), NONE);
        due.is("the last", faultOf("t0=a;t1=b;p00"), 10);
    }

    /** "letters (200 at most)". */
    static void twoHundred() {
        String full = RULE.repeat(16) + "p01;".repeat(18);
        due.is("its size", full.length(), 200);
        TreePasses x = told(full.substring(0, 199));
        due.is("fault in 199", x.fault(), 196);
        due.is("lay 199", x.lay(), NO);
        due.is("the 200th", x.write(';'), 200);
        due.is("fault in 200", x.fault(), NONE);
        due.is("the 201st", x.write(';'), FULL);
        due.is("count 8", x.count(8), 200);
        due.is("fault as it was", x.fault(), NONE);
        due.is("lay 200", x.lay(), 16);
        due.is("the text stays", x.count(8), 200);
        due.is("kind", x.count(3), 1);
        due.is("fault at the last sign of 200", faultOf(full.substring(0, 199) + ":"), 196);
        due.is("wipe", x.wipe(), 200);
        due.is("wipe", x.wipe(), 0);
        due.is("lay nothing", x.lay(), NO);
        due.is("as laid", x.count(0), 16);
    }

    /** "of 1 to 11 NODES", "(cdab is one, cdaab is none)". */
    static void nodes() {
        due.is("cdab", faultOf("t0=cdab;"), NONE);
        due.is("cdaab", faultOf("t0=cdaab;"), 0);
        due.is("cda", faultOf("t0=cda;"), 0);
        due.is("none", faultOf("t0=;"), 0);
        for (int n = 1; n <= 13; n++) {
            String chain = "c".repeat(n - 1) + "b";
            due.is("a chain of " + n, faultOf("t2=" + chain + ";"), n <= 11 ? NONE : 0);
            if (n % 2 == 1) {
                String left = "d".repeat(n / 2) + "a".repeat(n / 2 + 1);
                String right = "eb".repeat(n / 2) + "b";
                due.is("left " + n, faultOf("t1=" + left + ";"), n <= 11 ? NONE : 0);
                due.is("right " + n, faultOf("t1=" + right + ";"), n <= 11 ? NONE : 0);
            }
        }
        TreePasses x = laid("t0=ccccccccccb;t1=ddddd" + "aaaaab;t2=b;" + RULE);
        due.is("11 nodes", x.tree(0, -1), 11);
        due.is("11 nodes", x.tree(1, -1), 11);
        due.is("1 node", x.tree(2, -1), 1);
        due.is("all nodes", x.count(5), 23);
        due.is("without", laid(RULE).count(5), 3);
        same("a without", treeOf(laid(RULE), 2), "a");
    }

    /** "the last one told of each", "0 without", "noughts without". */
    static void lastOneTold() {
        TreePasses x = laid("t1=ccb;t1=ca;t2=b;p01;p13;p02;m0d=1111;m0d=0100;m1a=1;m1a=0;" + RULE);
        same("the last of 1", treeOf(x, 1), "ca");
        same("of 2", treeOf(x, 2), "b");
        same("of 0", treeOf(x, 0), "a");
        due.is("kind of 0", x.count(3), 2);
        due.is("kind of 1", x.count(4), 3);
        for (int k = 0; k < 4; k++) {
            due.is("values", x.table(0, 3, k), k == 1 ? 1 : 0);
            due.is("values without", x.table(1, 4, k), 0);
        }
        due.is("value told again", x.table(1, 0, 0), 0);
        TreePasses y = laid(RULE);
        due.is("kind without", y.count(3), 0);
        due.is("kind without", y.count(4), 0);
        for (int k = 0; k < 40; k++) {
            due.isTrue("noughts without", y.table(k / 20, k / 4 % 5, k % 4) <= 0);
        }
    }

    /** "RULES 0, 1, .. (16 at most)", "of a RULE at least". */
    static void rulesLaid() {
        due.is("no rule", told("t0=a;").lay(), NO);
        due.is("no rule, no fault", told("t0=a;").fault(), NONE);
        for (int n = 1; n <= 17; n++) {
            TreePasses x = told(RULE.repeat(n) + "p11;");
            due.is("fault in " + n, x.fault(), n <= 16 ? NONE : 128);
            due.is("lay " + n, x.lay(), n <= 16 ? n : NO);
            due.is("count of " + n, x.count(0), n <= 16 ? n : 13);
        }
    }

    /** "of 1 to 7 PIECES": rows of letters, rows of calls. */
    static void pieces() {
        due.is("none", faultOf("r00d*=;"), 0);
        for (int n = 1; n <= 9; n++) {
            String chain = "r00d*=" + "c".repeat(n - 1) + "a;";
            String called = "r00d*=" + "c".repeat(n - 1) + "0x;";
            due.is("fault " + chain, faultOf(chain), n <= 7 ? NONE : 0);
            due.is("fault " + called, faultOf(called), n <= 7 ? NONE : 0);
            if (n % 2 == 1) {
                String wide = "r00d*=" + "d".repeat(n / 2) + "0x".repeat(n / 2 + 1) + ";";
                String late = "r00d*=" + "e2y".repeat(n / 2) + "b;";
                due.is("fault " + wide, faultOf(wide), n <= 7 ? NONE : 0);
                due.is("fault " + late, faultOf(late), n <= 7 ? NONE : 0);
            }
        }
        TreePasses x = laid("r00d*=e2ye2ye2yb;r11c0=2x;");
        due.is("7 pieces", x.rule(0, 4), 7);
        due.is("1 piece", x.rule(1, 4), 1);
        due.is("the last", x.piece(0, 6), 1);
        due.is("over", x.piece(0, 7), NONE);
        due.is("over one", x.piece(1, 1), NONE);
    }

    // ---- enter

    /** What enter answers a text, in a new object: 13 if it is a rule. */
    static int enterOf(String body) {
        return entered(fresh(), 0, body);
    }

    /** Rules, and for each sign the signs that may stand in its place with what is behind. */
    static final String[][] BODIES = {
        {"00a*=a", "01", "012", "abcde", "01*", "=", "ab"},
        {"12c0=2x", "01", "012", "cde", "01*", "=", "012", "x"},
        {"01d1=0y", "01", "012", "de", "01*", "=", "012", "xy"},
        {"10e*=d2yb", "01", "012", "de", "01*", "=", "de", "012", "xy", "ab"},
    };

    /** "the first letter at which it can't go on so": each sign that can't stand in its place, whatever is behind. */
    static void stopsAtEachSign() {
        for (String[] row : BODIES) {
            String body = row[0];
            due.is("enter " + body, enterOf(body), 13);
            for (int at = 0; at < body.length(); at++) {
                String can = at == 2 ? "abcde" : at >= 5 ? row[at + 1] + "abcde012" : row[at + 1];
                for (char sign = 32; sign < 127; sign++) {
                    String other = body.substring(0, at) + sign + body.substring(at + 1);
                    if (row[at + 1].indexOf(sign) >= 0) {
                        due.is("enter " + other, enterOf(other), 13);
                    } else if (can.indexOf(sign) < 0) {
                        due.is("enter " + other, enterOf(other), -10 - at);
                    }
                }
            }
        }
    }

    /** "(its size, if it ends too early)". */
    static void endsTooEarly() {
        String[] bodies = {"00a*=a", "12e1=dd0x1yd2xb", "01c0=cccccc2x", "10b1=dddabab"};
        for (String body : bodies) {
            for (int size = 0; size < body.length(); size++) {
                due.is("enter " + body.substring(0, size), enterOf(body.substring(0, size)), -10 - size);
            }
            due.is("enter " + body, enterOf(body), 13);
            for (char sign = 32; sign < 127; sign++) {
                due.is("enter " + body + sign, enterOf(body + sign), -10 - body.length());
            }
        }
    }

    /** Of the stop at a sign that could stand there, were it not for the letter that the rule is of. */
    static void stopsByLetter() {
        due.is("no figure for a", enterOf("00a*=0x"), -15);
        due.is("no figure for b", enterOf("00b*=c0x"), -16);
        due.is("no y for c", enterOf("00c*=0y"), -16);
        due.is("no y for c, further on", enterOf("00c*=d0x0y"), -19);
        due.is("y for d", enterOf("00d*=0y"), 13);
        due.is("y for e", enterOf("00e*=0y"), 13);
        due.is("no state 3", enterOf("00d*=3y"), -15);
        due.is("no w", enterOf("00d*=0w"), -16);
        due.is("no z", enterOf("00d*=0z"), -16);
        due.is("as an item", enterOf("r00a*=a;"), -10);
        due.is("with a ;", enterOf("00a*=a;"), -16);
    }

    /** More than 7 pieces: it can't go on at the letter for whose children there is no room. */
    static void enterPieces() {
        for (int n = 1; n <= 9; n++) {
            due.is("a chain of " + n, enterOf("00a*=" + "c".repeat(n - 1) + "a"), n <= 7 ? 13 : -21);
            due.is("a called chain of " + n, enterOf("00c*=" + "c".repeat(n - 1) + "0x"), n <= 7 ? 13 : -21);
        }
        due.is("7 of d", enterOf("00d*=ddd0x0x0x0x"), 13);
        due.is("9 of d", enterOf("00d*=dddd0x0x0x0x0x"), -18);
        due.is("8 at the last", enterOf("00d*=d0xd0xd0xc0x"), -24);
        due.is("9 at the last", enterOf("00d*=d0xd0xd0xd0x0x"), -24);
        due.is("7 at the last", enterOf("00d*=d0xd0xc0x"), 13);
        char[] many = new char[195];
        Arrays.fill(many, 'c');
        due.is("200 letters", enterOf("00c*=" + new String(many)), -21);
    }

    /** "as RULE r (as many as there are: behind all)", "FULL: 16", "(FULL ahead of that.)". */
    static void enterPlaces() {
        TreePasses x = laid(RULE);
        x.cut(0);
        due.is("the only", entered(x, 0, "00b*=b"), 1);
        due.is("its letter", x.rule(0, 2), 1);
        for (int n = 1; n < 16; n++) {
            tell(x, "00c*=a");
            due.is("BAD above " + n, x.enter(n + 1), BAD);
            due.is("BAD below 0", x.enter(-1), BAD);
            due.is("in place of the last", x.enter(n - 1), n);
            due.is("behind " + n, entered(x, n, "00d*=a"), n + 1);
            due.is("the last", x.rule(n, 2), 3);
            due.is("the one ahead", x.rule(n - 1, 2), 2);
        }
        due.is("count", x.count(0), 16);
        due.is("a 17th", x.enter(16), FULL);
        due.is("BAD", x.enter(17), BAD);
        due.is("BAD", x.enter(HIGH), BAD);
        due.is("BAD", x.enter(LOW), BAD);
        due.is("in place of the 16th", x.enter(15), 16);
        due.is("in place of the first", x.enter(0), 16);
        due.is("FULL ahead", entered(x, 16, "x"), FULL);
        due.is("BAD ahead", x.enter(17), BAD);
        due.is("in place of one, with a fault", x.enter(15), -10);
    }

    public static void main(String[] args) {
        due = new Due("TextEdgesTest");
        eachSignInEachPlace();
        signsTooFewAndTooMany();
        valuesTold();
        firstOfTwo();
        twoHundred();
        nodes();
        lastOneTold();
        rulesLaid();
        pieces();
        stopsAtEachSign();
        endsTooEarly();
        stopsByLetter();
        enterPieces();
        enterPlaces();
        due.end();
    }
}
