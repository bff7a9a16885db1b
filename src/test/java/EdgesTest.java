import java.util.function.IntUnaryOperator;

/** Each sentence of the promises that names an edge: at it, one below it, one above it. The text's edges are TextEdgesTest's. */
public final class EdgesTest extends Bench {
    static final String ELEVEN = "t0=cccccccccca;t1=dddddaaaaab;t2=b;";
    static final String RULE = "r00a*=a;";

    /** "BAD: a number is none that is told": the first and last told are none, those beside them and far off are. */
    static void told(String what, int low, int high, IntUnaryOperator call) {
        for (int n : new int[] {low, high}) {
            due.isTrue(what + " " + n + " is BAD", call.applyAsInt(n) != BAD);
        }
        for (int n : new int[] {low - 1, high + 1, LOW, HIGH}) {
            due.is(what + " " + n, call.applyAsInt(n), BAD);
        }
    }

    /** "NONE: not so many; BAD (below ..)": of a row of so many, asked for from a first number on. */
    static void row(String what, int first, int size, IntUnaryOperator call) {
        due.is(what + " below the first", call.applyAsInt(first - 1), BAD);
        due.is(what + " far below", call.applyAsInt(LOW), BAD);
        due.isTrue(what + " the first", call.applyAsInt(first) >= 0);
        due.isTrue(what + " the last", call.applyAsInt(size - 1) >= 0);
        due.is(what + " behind the last", call.applyAsInt(size), NONE);
        due.is(what + " further on", call.applyAsInt(size + 1), NONE);
        due.is(what + " far above", call.applyAsInt(HIGH), NONE);
    }

    // ---- numbers that are told, and those beside them

    static void numbersOfPrograms() {
        TreePasses x = fresh();
        TreePasses y = laid(ELEVEN + RULE);
        told("write", 32, 126, n -> fresh().write(n));
        told("tree", 0, 2, n -> x.tree(n, 0));
        told("tree, how many", 0, 2, n -> x.tree(n, -1));
        told("value, automaton", 0, 1, n -> x.value(n, 0, 0));
        told("value, tree", 0, 2, n -> x.value(0, n, 0));
        told("value, node of 4", 0, 3, n -> x.value(0, 0, n));
        told("value, node of 3", 0, 2, n -> x.value(1, 1, n));
        told("value, node of 6", 0, 5, n -> x.value(1, 2, n));
        told("value, node of 11", 0, 10, n -> y.value(1, 1, n));
        told("value, node of 1", 0, 0, n -> y.value(1, 2, n));
        told("table, automaton", 0, 1, n -> x.table(n, 0, 0));
        told("table, letter", 0, 4, n -> x.table(0, n, 0));
        told("rule of 13", 0, 12, n -> x.rule(n, 0));
        told("rule of 1", 0, 0, n -> y.rule(n, 0));
        told("rule, what", 0, 4, n -> x.rule(0, n));
        told("piece of 13", 0, 12, n -> x.piece(n, 0));
        told("piece of 1", 0, 0, n -> y.piece(n, 0));
        int[] has = {1, 1, 2, 4, 4};
        for (int f = 0; f < 5; f++) {
            int letter = f;
            told("table, k of " + f, 0, has[f] - 1, k -> x.table(1, letter, k));
            told("flip, k of " + f, 0, has[f] - 1, k -> fresh().flip(1, letter, k));
        }
        TreePasses full = laid(RULE.repeat(16));
        told("rule of 16", 0, 15, n -> full.rule(n, 4));
        told("piece of 16", 0, 15, n -> full.piece(n, 0));
    }

    static void numbersOfActs() {
        told("enter of 13", 0, 13, n -> entered(fresh(), n, "00a*=a"));
        told("cut of 13", 0, 12, n -> fresh().cut(n));
        told("cut of 1", 0, 0, n -> laid(RULE).cut(n));
        told("cut of 16", 0, 15, n -> laid(RULE.repeat(16)).cut(n));
        told("shift", 0, 12, n -> fresh().shift(n, 5));
        told("shift to", 0, 12, n -> fresh().shift(5, n));
        told("shift of 16 to", 0, 15, n -> laid(RULE.repeat(16)).shift(5, n));
        told("shift of 1 to", 0, 0, n -> laid(RULE).shift(0, n));
        told("leaf, tree", 0, 2, n -> laid(RULE).leaf(n, 0, 1));
        told("leaf, letter of a leaf", 0, 1, n -> fresh().leaf(0, 2, n));
        told("leaf, letter of a c", 2, 2, n -> fresh().leaf(0, 1, n));
        told("leaf, letter of a d", 3, 4, n -> fresh().leaf(0, 0, n));
        told("leaf, node of 1", 0, 0, n -> laid(ELEVEN + RULE).leaf(2, n, 0));
        told("leaf, node of 11", 0, 10, n -> laid(ELEVEN + RULE).leaf(1, n, n < 5 ? 4 : 1));
        told("flip, automaton", 0, 1, n -> fresh().flip(n, 0, 0));
        told("flip, letter", 0, 4, n -> fresh().flip(0, n, 0));
        told("rename, pass", 0, 1, n -> fresh().rename(n, 1));
        told("rename, kind", 0, 3, n -> fresh().rename(0, n));
    }

    static void numbersOfAsks() {
        TreePasses x = fresh();
        TreePasses y = laid(ELEVEN + RULE);
        told("out, pass", 0, 1, n -> x.out(n, 0, 0, -1));
        told("out, state", 0, 2, n -> x.out(0, n, 0, -1));
        told("out, tree", 0, 2, n -> x.out(0, 0, n, -1));
        told("both, tree", 0, 2, n -> x.both(n, -1));
        told("one, tree", 0, 2, n -> x.one(n, -1));
        told("linear, pass", 0, 1, n -> x.linear(n, 0));
        told("linear, what", 0, 1, n -> x.linear(0, n));
        told("visits, pass", 0, 1, n -> x.visits(n, 0, 0));
        told("visits, tree", 0, 2, n -> x.visits(0, n, 0));
        told("visits, node of 4", 0, 3, n -> x.visits(0, 0, n));
        told("visits, node of 11", 0, 10, n -> y.visits(0, 0, n));
        told("visits, node of 1", 0, 0, n -> y.visits(0, 2, n));
        told("comes", 0, 1, n -> x.comes(n));
        told("least, pass", 0, 1, n -> x.least(n, 0, -1));
        told("least, profile", 0, 53, n -> x.least(0, n, -1));
        told("least, profile, a letter", 0, 53, n -> x.least(1, n, 0));
        told("total, pass", 0, 1, n -> x.total(n, 0, 0));
        told("total, state", 0, 2, n -> x.total(0, n, 0));
        told("total, what", 0, 1, n -> x.total(0, 0, n));
        told("typed, pass", 0, 1, n -> x.typed(n, 0, 0));
        told("typed, state", 0, 2, n -> x.typed(0, n, 0));
        told("typed, what", 0, 1, n -> x.typed(0, 0, n));
        told("count", 0, 8, n -> x.count(n));
    }

    /** "NONE: not so many; BAD (below -1)", "(below 0)", "(i below -1)". */
    static void rows() {
        TreePasses x = laid(ELEVEN + "r00a*=ccccccb;r00c*=c0x;r10a*=a;r10b*=b;r10c*=0x;m1a=1;");
        row("tree of 11", -1, 11, v -> x.tree(0, v));
        row("tree of 1", -1, 1, v -> x.tree(2, v));
        row("piece of 7", 0, 7, i -> x.piece(0, i));
        row("piece of 1", 0, 1, i -> x.piece(2, i));
        row("out of 17", -1, 17, i -> x.out(0, 0, 0, i));
        row("out of 1", -1, 1, i -> x.out(1, 0, 0, i));
        row("both of 1", -1, 1, i -> x.both(0, i));
        row("one of 1", -1, 1, i -> x.one(0, i));
        TreePasses y = laid("m0b=1;m0d=0001;r00b*=a;");
        row("least of 1", -1, 1, i -> y.least(0, 49, i));
        row("least of 3", -1, 3, i -> y.least(0, 53, i));
        due.is("least of none", y.least(0, 0, -1), NONE);
        due.is("least of none", y.least(0, 0, 0), NONE);
        due.is("least of none, BAD ahead of NONE", y.least(0, 0, -2), BAD);
        due.is("tree, BAD ahead of NONE", y.tree(3, 11), BAD);
        due.is("piece, BAD ahead of NONE", y.piece(1, 7), BAD);
    }

    /** "two for c (its child being 0, then 1); four for d, e (its children being 00, 01, 10, 11)". */
    static void valuesByChildren() {
        String[] leaves = {"aa", "ab", "ba", "bb"};
        for (int k = 0; k < 4; k++) {
            for (int told = 0; told < 4; told++) {
                String values = "0".repeat(told) + "1" + "0".repeat(3 - told);
                for (String f : new String[] {"d", "e"}) {
                    TreePasses x = laid("t0=" + f + leaves[k] + ";m0b=1;m0" + f + "=" + values + ";" + RULE);
                    due.is("value of " + leaves[k] + " by " + values, x.value(0, 0, 0), k == told ? 1 : 0);
                }
            }
        }
        for (int k = 0; k < 4; k++) {
            TreePasses x = laid("t0=c" + "ab".charAt(k / 2) + ";m1b=1;m1c=" + (k % 2 == 0 ? "10" : "01") + ";" + RULE);
            due.is("value of c", x.value(1, 0, 0), k / 2 == k % 2 ? 1 : 0);
        }
    }

    // ---- acts

    /** "TAKEN OUT (those behind it are one number lower): how many are left". */
    static void cutToNone() {
        TreePasses x = laid("t0=ca;r00a*=a;r01b*=b;r12c*=0x;");
        due.is("the middle", x.cut(1), 2);
        due.is("one lower", x.rule(1, 0), 1);
        due.is("BAD", x.cut(2), BAD);
        due.is("the last", x.cut(1), 1);
        due.is("the only", x.cut(0), 0);
        due.is("none is left", x.cut(0), BAD);
        due.is("count", x.count(0), 0);
        due.is("rule", x.rule(0, 0), BAD);
        due.is("stuck", x.out(0, 0, 0, -1), -10);
        due.is("stuck", x.both(0, -1), -10);
        due.is("stuck", x.one(0, -1), -10);
        due.is("linear", x.linear(0, 0), 1);
        due.is("comes", x.comes(0), 1);
        due.is("total", x.total(0, 0, 0), 1);
        due.is("typed", x.typed(0, 0, 0), 0);
        due.is("undo", x.undo(), 2);
        due.is("as it was", x.rule(0, 2), 0);
        due.is("undo", x.undo(), 1);
        due.is("undo", x.undo(), 0);
        due.is("as they were", x.rule(2, 0), 1);
        TreePasses full = laid("r00a*=a;".repeat(15) + "r00b*=b;");
        due.is("of 16", full.cut(0), 15);
        due.is("the last is one lower", full.rule(14, 2), 1);
    }

    /** "SHIFTED to a place (those between move by one): how many RULES moved besides". */
    static void shiftAll() {
        String letters = "abcdeabcdeabcdea";
        StringBuilder text = new StringBuilder();
        for (char f : letters.toCharArray()) {
            text.append("r00").append(f).append("*=a;");
        }
        for (int r = 0; r < 16; r++) {
            for (int to = 0; to < 16; to++) {
                TreePasses x = laid(text.toString());
                due.is("shift " + r + " to " + to, x.shift(r, to), r == to ? NO : Math.abs(r - to));
                StringBuilder want = new StringBuilder(letters).deleteCharAt(r).insert(to, letters.charAt(r));
                same("shifted", row(16, i -> x.rule(i, 2)), want.toString());
                due.is("count 6", x.count(6), r == to ? 0 : 1);
            }
        }
    }

    /** "A NODE is of another LETTER with as many children: which it was", for each letter and each other one. */
    static void leafLetters() {
        String tree = "dcaeab";
        int[] children = {0, 0, 1, 2, 2};
        for (int v = 0; v < tree.length(); v++) {
            int was = tree.charAt(v) - 'a';
            for (int f = -1; f <= 5; f++) {
                TreePasses x = laid("t2=" + tree + ";" + RULE);
                boolean fits = f >= 0 && f < 5 && children[f] == children[was];
                due.is("leaf " + was + " to " + f, x.leaf(2, v, f), !fits ? BAD : f == was ? NO : was);
                String want = fits ? tree.substring(0, v) + (char) ('a' + f) + tree.substring(v + 1) : tree;
                same("the tree then", treeOf(x, 2), want);
            }
        }
        TreePasses x = laid(ELEVEN + RULE);
        due.is("the last of 11", x.leaf(0, 10, 1), 0);
        due.is("no 12th", x.leaf(0, 11, 1), BAD);
        due.is("the first of 11", x.leaf(1, 0, 4), 3);
        due.is("the only", x.leaf(2, 0, 0), 1);
        same("0", treeOf(x, 0), "ccccccccccb");
        same("1", treeOf(x, 1), "eddddaaaaab");
        same("2", treeOf(x, 2), "a");
    }

    /** "The k-th VALUE .. is the other one: it then", and no other one. */
    static void flipEach() {
        int[] has = {1, 1, 2, 4, 4};
        for (int at = 0; at < 40; at++) {
            TreePasses x = fresh();
            TreePasses was = fresh();
            int m = at / 20, f = at / 4 % 5, k = at % 4;
            if (k >= has[f]) {
                continue;
            }
            due.is("flip", x.flip(m, f, k), 1 - was.table(m, f, k));
            for (int other = 0; other < 40; other++) {
                int want = was.table(other / 20, other / 4 % 5, other % 4);
                due.is("table", x.table(other / 20, other / 4 % 5, other % 4), other == at ? 1 - want : want);
            }
            due.is("flip again", x.flip(m, f, k), was.table(m, f, k));
        }
    }

    /** "A PASS is of another KIND: which it was. NO: it is". */
    static void renameEach() {
        for (int at = 0; at < 32; at++) {
            int p = at / 16, from = at / 4 % 4, to = at % 4;
            TreePasses x = laid("p" + p + from + ";" + RULE);
            due.is("rename", x.rename(p, to), from == to ? NO : from);
            due.is("kind", x.count(3 + p), to);
            due.is("kind of the other", x.count(4 - p), 0);
            due.is("count 6", x.count(6), from == to ? 0 : 1);
        }
    }

    /** "(the last 8 can be)". */
    static void lastEight() {
        for (int acts = 0; acts <= 20; acts++) {
            TreePasses x = laid(RULE);
            for (int n = 0; n < acts; n++) {
                due.is("enter", entered(x, 0, "00a*=" + "c".repeat(n % 7) + "a"), 1);
            }
            int can = Math.min(acts, 8);
            due.is("count 6", x.count(6), can);
            for (int n = can - 1; n >= 0; n--) {
                due.is("undo", x.undo(), n);
            }
            due.is("no more", x.undo(), NO);
            due.is("count 6", x.count(6), 0);
            due.is("as it was ahead of them", x.rule(0, 4), acts <= 8 ? 1 : 1 + (acts - 9) % 7);
        }
    }

    // ---- outputs

    /** Trees and rules whose output has just so many letters, 6 of each c, the rest of the a. */
    static String chain(int letters) {
        int nodes = (letters - 1) / 6;
        return "t0=" + "c".repeat(nodes) + "a;r00c*=cccccc0x;r00a*=" + "c".repeat(letters - 1 - 6 * nodes) + "b;";
    }

    /** "it is LONG at its 41st LETTER". */
    static void longAtForty() {
        for (int n = 1; n <= 43; n++) {
            TreePasses x = laid(chain(n));
            due.is("out of " + n, x.out(0, 0, 0, -1), n <= 40 ? n : FULL);
            due.is("out of " + n + ", the last", x.out(0, 0, 0, n - 1), n <= 40 ? 1 : FULL);
            due.is("out of " + n + ", the 40th", x.out(0, 0, 0, 39), n < 40 ? NONE : n == 40 ? 1 : FULL);
            due.is("out of " + n + ", no 41st", x.out(0, 0, 0, 40), n <= 40 ? NONE : FULL);
            due.is("out of " + n + ", BAD ahead", x.out(0, 0, 0, -2), BAD);
            TreePasses y = laid(chain(n) + "r10c*=0x;r10b*=a;");
            due.is("both over " + n, y.both(0, -1), n <= 40 ? 1 : FULL);
            due.is("both over " + n + ", BAD ahead", y.both(0, -2), BAD);
            due.is("one over " + n, y.one(0, -1), 1);
            TreePasses z = laid(chain(n).replace("r00", "r10") + "r00c*=c0x;r00a*=a;");
            due.is("both to " + n, z.both(0, -1), n <= 40 ? n : FULL);
            due.is("one to " + n, z.one(0, -1), n <= 40 ? n : FULL);
            due.is("one to " + n + ", the last", z.one(0, n - 1), n <= 40 ? 1 : FULL);
            due.is("one to " + n + ", BAD ahead", z.one(0, -2), BAD);
        }
    }

    /** "if it is not STUCK ahead of that": stuck with so many letters made. */
    static void stuckOrLong() {
        for (int n = 37; n <= 42; n++) {
            String tree = "t0=ccccccdab;";
            String head = "c".repeat(n - 36);
            TreePasses x = laid(tree + "r00c*=cccccc0x;r00d*=" + head + "0x;");
            due.is("stuck with " + n, x.out(0, 0, 0, -1), n <= 40 ? -17 : FULL);
            due.is("stuck with " + n + ", any i", x.out(0, 0, 0, HIGH), n <= 40 ? -17 : FULL);
            due.is("stuck with " + n + ", come to", x.visits(0, 0, 7), n <= 40 ? 1 : 0);
            TreePasses y = laid(tree + "r10c*=cccccc0x;r10d*=" + head + "0x;r00c*=c0x;r00d*=d0x0y;r00a*=a;r00b*=b;");
            due.is("both stuck with " + n, y.both(0, -1), n <= 40 ? -67 : FULL);
            due.is("one stuck with " + n, y.one(0, -1), n <= 40 ? -17 : FULL);
        }
    }

    /** "-10 less the NODE: STUCK", "-60 less the NODE of what is between". */
    static void stuckAtEach() {
        for (int n = 0; n <= 10; n++) {
            String tree = "t0=" + "c".repeat(n) + (n <= 8 ? "dab;" : "b;");
            TreePasses x = laid(tree + "r00c*=c0x;r00a*=a;r10c*=c0x;r10a*=a;");
            due.is("out at " + n, x.out(0, 0, 0, -1), -10 - n);
            due.is("out of pass 1 at " + n, x.out(1, 0, 0, -1), -10 - n);
            due.is("both, pass 0 at " + n, x.both(0, -1), -10 - n);
            due.is("one, pass 0 at " + n, x.one(0, -1), -10 - n);
            due.is("visits of it", x.visits(0, 0, n), 1);
            due.is("visits ahead of it", x.visits(0, 0, 0), 1);
        }
        for (int n = 0; n < 40; n++) {
            TreePasses x = laid(chain(n + 1) + "r10c*=0x;");
            due.is("both, pass 1 at " + n, x.both(0, -1), -60 - n);
            due.is("both, pass 1 at " + n + ", any i", x.both(0, HIGH), -60 - n);
            due.is("both, pass 1 at " + n + ", BAD ahead", x.both(0, -2), BAD);
        }
    }

    /** "STUCK at the first NODE at which the PASS is so", in the order of the output, not of the tree. */
    static void stuckFirst() {
        String rules = "r00d*=d0y0x;r00e*=e0x0y;";
        due.is("y first", laid("t0=dab;" + rules).out(0, 0, 0, -1), -12);
        due.is("x first", laid("t0=eab;" + rules).out(0, 0, 0, -1), -11);
        due.is("mirrored", laid("t0=eab;p02;" + rules).out(0, 0, 0, -1), -12);
        due.is("not called for", laid("t0=dab;r00d*=c0y;r00b*=a;").out(0, 0, 0, -1), 2);
        due.is("look ahead that fails", laid("t0=cb;m0c=01;r00c1=a;r00b*=a;").out(0, 0, 0, -1), -10);
        due.is("look ahead that doesn't", laid("t0=cb;m0c=10;r00c1=a;r00b*=a;").out(0, 0, 0, -1), 1);
    }

    // ---- as one

    /** "made no further than PASS 1 comes to it, so that what is left out is not made, nor STUCK". */
    static void oneLeavesOut() {
        TreePasses x = laid("t0=dab;t1=dba;r00d*=d0x0y;r00a*=b;r10d*=c0x;r10b*=a;");
        due.is("both", x.both(0, -1), -12);
        due.is("one", x.one(0, -1), 2);
        due.is("both", x.both(1, -1), -11);
        due.is("one", x.one(1, -1), -11);
        TreePasses none = laid("t0=dab;r00d*=d0x0y;r10d*=b;");
        due.is("none is called for", none.one(0, -1), 1);
        due.is("both", none.both(0, -1), -11);
        TreePasses top = laid("t0=dab;r10d*=b;");
        due.is("the top is come to", top.one(0, -1), -10);
        TreePasses down = laid("t0=cccccccccca;r00c*=0x;r00a*=b;r10a*=b;");
        due.is("made of the last alone, pass 1 without a rule", down.one(0, -1), -20);
        due.is("both", down.both(0, -1), -60);
        due.is("made of the last alone", laid("t0=cccccccccca;r00c*=0x;r00a*=b;r10b*=ca;").one(0, -1), 2);
        due.is("pass 0 without a rule at the last", laid("t0=cccccccccca;r00c*=0x;r10b*=ca;").one(0, -1), -20);
        TreePasses deep = laid("t0=cccccccccca;r00c*=cccccc0x;r00a*=ccccccb;r10c*=0x;r10b*=ca;");
        due.is("67 letters between, which aren't counted", deep.one(0, -1), 2);
    }

    /** What is left of a node's rule is gone on with behind what came of a call, and each pass is of its own KIND. */
    static void oneGoesOn() {
        String copies = "r10d*=d0x0y;r10e*=e0x0y;r10c*=c0x;r10a*=a;r10b*=b;";
        String[] bodies = {"dcab dcab", "ddabb ddabb", "dd0xab ddaab", "ed0x0ycb edabcb", "d0x0y dab", "d0y0x dba", "dc0yec0xa dcbecaa",
            "ddcabcb ddcabcb", "deab0y deabb"};
        for (String told : bodies) {
            String body = told.substring(0, told.indexOf(' '));
            String made = told.substring(told.indexOf(' ') + 1);
            TreePasses x = laid("t0=dab;r00d*=" + body + ";r00a*=a;r00b*=b;" + copies);
            same("one of " + body, oneOf(x, 0), made);
            same("both of " + body, bothOf(x, 0), made);
        }
        String rules = "t0=dab;r00d*=dc0xd0yb;r00a*=a;r00b*=b;" + copies;
        String[] kinds = {"", "p02;", "p12;", "p02;p12;", "p01;p13;", "p03;p11;"};
        String[] due = {"dcadbb", "dcbdab", "ddbbca", "ddbacb", "ddbbca", "dcbdab"};
        for (int n = 0; n < kinds.length; n++) {
            same("one, kinds " + kinds[n], oneOf(laid(kinds[n] + rules), 0), due[n]);
            same("both, kinds " + kinds[n], bothOf(laid(kinds[n] + rules), 0), due[n]);
        }
        String passed = "t0=deabb;r00d*=0x;r00e*=0y;r00a*=a;r00b*=b;r10a*=a;r10b*=b;";
        same("a call alone", oneOf(laid(passed), 0), "b");
        same("a call alone, pass 0 mirrored", oneOf(laid("p02;" + passed), 0), "b");
        same("a call alone, pass 1 mirrored", oneOf(laid("p12;t0=deabb;r00d*=0x;r00e*=0x;r00a*=a;r10a*=a;"), 0), "a");
        same("a call alone, pass 0 mirrored", oneOf(laid("p02;t0=dbeba;r00d*=0x;r00e*=0x;r00a*=a;r10a*=a;"), 0), "a");
    }

    /** "PASS 1 takes just such of its RULES whose L is *": of one with 0, one with 1, one with *. */
    static void oneTakesStars() {
        String tree = "t0=ca;r00c*=c0x;r00a*=a;r10a*=a;";
        due.is("0 alone", laid(tree + "r10c0=c0x;").one(0, -1), -10);
        due.is("1 alone", laid(tree + "r10c1=c0x;").one(0, -1), -10);
        due.is("* behind 0", laid(tree + "r10c0=b;r10c*=c0x;").one(0, -1), 2);
        due.is("* behind 0, both", laid(tree + "r10c0=b;r10c*=c0x;").both(0, -1), 1);
        due.is("* ahead of 1, LAST", laid("p11;" + tree + "r10c*=c0x;r10c1=b;").one(0, -1), 2);
        due.is("two of *, PLAIN", laid(tree + "r10c*=c0x;r10c*=b;").one(0, -1), 2);
        due.is("two of *, LAST", laid("p11;" + tree + "r10c*=c0x;r10c*=b;").one(0, -1), 1);
        due.is("PASS 0 looks", laid("t0=ca;m0c=10;r00c0=b;r00c1=c0x;r00a*=a;r10c*=c0x;r10a*=a;").one(0, -1), 2);
    }

    // ---- which passes copy, leave out, how often

    /** "no W CALLS for the same child twice", "each W CALLS for each child that the LETTER has". */
    static void linearOrWhole() {
        String[] rules = {"a*=dab 11", "b*=a 11", "c*=a 10", "c*=0x 11", "c*=d0x1x 01", "c*=d0x0x 01", "c*=dd0x1x2x 01", "d*=a 10",
            "d*=0x 10", "d*=2y 10", "d*=d0x1y 11", "d*=d2y0x 11", "d*=d0x1x 00", "d*=e1y1y 00", "d*=dd0x0y1x 01",
            "e*=dd0x0y1y 01", "e*=d0x1y 11", "e*=c0y 10"};
        for (String rule : rules) {
            String body = rule.substring(0, rule.indexOf(' '));
            String is = rule.substring(rule.indexOf(' ') + 1);
            for (int p = 0; p < 2; p++) {
                TreePasses x = laid("r" + p + "0" + body + ";" + "r" + p + "0a*=a;");
                due.is("linear " + body, x.linear(p, 0), is.charAt(0) - '0');
                due.is("whole " + body, x.linear(p, 1), is.charAt(1) - '0');
                due.is("linear, no rule", x.linear(1 - p, 0), 1);
                due.is("whole, no rule", x.linear(1 - p, 1), 1);
            }
        }
        due.is("once in each of two", laid("r00c*=0x;r00c*=1x;").linear(0, 0), 1);
        due.is("mirrored", laid("p02;r00d*=d0x0y;").linear(0, 1), 1);
        TreePasses x = laid("r00c*=0x;r00c*=d0x0x;r00c*=a;");
        due.is("not linear", x.linear(0, 0), 0);
        due.is("not whole", x.linear(0, 1), 0);
        x.cut(2);
        due.is("whole, the last being taken out", x.linear(0, 1), 1);
        x.cut(1);
        due.is("linear, the last being taken out", x.linear(0, 0), 1);
    }

    /** "how often a PASS comes to it .. till it is done, STUCK (that counts), LONG". */
    static void visitsTill() {
        TreePasses done = laid("t0=dcab;r00d*=dd0x0xd0x0x;r00c*=d0x0x;r00a*=a;");
        int[] often = {1, 4, 8, 0};
        TreePasses stuck = laid("t0=dcab;r00d*=dd0x0yd0x0x;r00c*=d0x0x;r00a*=a;");
        int[] tillStuck = {1, 1, 2, 1};
        TreePasses tooLong = laid("t0=ccca;r00c*=ddd0x0x0x0x;r00a*=a;");
        for (int v = 0; v < 4; v++) {
            due.is("done " + v, done.visits(0, 0, v), often[v]);
            due.is("stuck " + v, stuck.visits(0, 0, v), tillStuck[v]);
            due.is("without a rule " + v, done.visits(1, 0, v), v == 0 ? 1 : 0);
        }
        due.is("long", tooLong.out(0, 0, 0, -1), FULL);
        due.is("long, the top", tooLong.visits(0, 0, 0), 1);
        due.isTrue("long, the last", tooLong.visits(0, 0, 3) > 0 && tooLong.visits(0, 0, 3) < 41);
        TreePasses none = laid("t0=ca;r01c*=0x;r01a*=a;");
        due.is("from STATE 0", none.visits(0, 0, 1), 0);
        for (int n = 39; n <= 42; n++) {
            TreePasses x = laid("t0=ccccccca;r00c*=ccccc0x;r00a*=" + "c".repeat(n - 36) + "b;");
            due.is("the last with " + n, x.visits(0, 0, 7), 1);
        }
    }

    // ---- all trees

    /** PROFILES 0 to 53, all of which some tree has. */
    static void allProfiles() {
        TreePasses x = laid("m0d=0001;m0e=1110;m1b=1;r02e0=b;r01d*=2y;r02a*=a;r02e1=2x;r00d*=1x;r02d*=2x;");
        due.is("all of them", x.comes(0), 54);
        due.is("the first", x.least(0, 0, -1), 5);
        due.is("the last", x.least(0, 53, -1), 3);
        due.is("below", x.least(0, -1, -1), BAD);
        due.is("above", x.least(0, 54, -1), BAD);
        TreePasses one = laid("r00a*=a;r00b*=a;r00c*=a;r00d*=a;r00e*=a;");
        due.is("one of them", one.comes(0), 1);
        due.is("LOOK 0, TYPE 0, stuck, stuck", one.least(0, 48, -1), 1);
        due.is("pass 1: all stuck", one.least(1, 52, -1), 1);
        TreePasses zero = laid("r00a*=a;r01a*=a;r02a*=a;");
        due.is("all of TYPE 0", zero.least(0, 0, -1), 1);
        due.is("no rule of b", zero.least(0, 52, 0), 1);
        due.is("two of them", zero.comes(0), 2);
    }

    /** "one of fewest NODES .., of several the first, LETTER by LETTER". */
    static void leastOfSeveral() {
        TreePasses x = laid("m0e=1111;m0c=01;" + "r00a*=a;r01b*=b;");
        same("e ahead of ce", leastOf(x, 0, 1 + 4 + 12 + 36), "eaa");
        same("a alone", leastOf(x, 0, 0 + 0 + 12 + 36), "a");
        same("b alone", leastOf(x, 0, 0 + 4 + 0 + 36), "b");
        same("c ahead of d, e", leastOf(x, 0, 52), "ca");
        TreePasses both = laid("m0b=1;m0d=0110;m0e=0110;r00b*=a;");
        same("dab of dab, dba, eab, eba", leastOf(both, 0, 53), "dab");
        TreePasses late = laid("m0b=1;m0d=0010;m0e=1110;r00b*=a;");
        same("dba of dba, eaa", leastOf(late, 0, 53), "dba");
        TreePasses inside = laid("m0e=1000;r00e*=a;r02e*=0y;");
        same("eaeaeaa of eaeaeaa, eaeeaaa", leastOf(inside, 0, 13), "eaeaeaa");
        TreePasses forty = laid("m0c=01;m0d=1100;m0e=0011;m1d=1001;r00e1=a;r02d0=0y;r01d*=d2x2y;r00c0=c0x;r02c0=da0x;r02e1=0y;"
            + "r00d1=2y;r00d0=c1y;");
        same("the first of several of 40", leastOf(forty, 0, 40), "dedaadacddaadddaaedaaaddaaedaaaddaaedaaa");
    }

    /** Programs whose state first makes an output of TYPE 0 of a tree of just so many nodes. */
    static final String AT_39 = "m0c=01;m0d=1100;m0e=0001;m1d=1001;r00e1=a;r01d*=d2x2y;r00c0=c0x;r02c0=da0x;r02e1=0y;r00e*=1y;";
    static final String AT_40 = "m0c=01;m0d=1100;m0e=0001;m1d=1001;r00e1=a;r01d*=d2x2y;r02c0=da0x;r02e1=0y;r00d0=c1y;";
    static final String AT_41 = "m0d=0100;m0e=1111;m1d=0111;m1e=1010;r01e*=1x;r00e*=b;r01d1=0x;r01d0=e1y1x;r00d0=d0ycb;r02d1=d1xb;";
    static final String AT_42 = "m0d=1110;m0e=0001;m1d=1001;r00e1=a;r01d1=1y;r01d*=d2x2y;r02c0=1x;r02e1=0y;r00d1=2y;";

    /** "(40 at most): how many NODES; its LETTERS; none", "41: none has 40 at most". */
    static void fortyNodes() {
        TreePasses x = laid(AT_39);
        due.is("39", x.typed(0, 1, 0), 39);
        due.is("39, which", x.typed(0, 1, 1), 41);
        same("39", leastOf(x, 0, 41), "dcceadedaaedaadaaedaaedaadaaedaaedaadaa");
        row("least of 39", -1, 39, i -> x.least(0, 41, i));
        TreePasses y = laid(AT_40);
        due.is("40", y.typed(0, 1, 0), 40);
        due.is("40, which", y.typed(0, 1, 1), 41);
        same("40", leastOf(y, 0, 41), "dcddaadedaaedaadaaedaaedaadaaedaaedaadaa");
        row("least of 40", -1, 40, i -> y.least(0, 41, i));
        TreePasses z = laid(AT_41);
        due.is("41", z.typed(0, 2, 0), 41);
        due.is("41, which", z.typed(0, 2, 1), NONE);
        noneOf(z, 17);
        due.is("41, comes", z.comes(0), 15);
        TreePasses second = laid(AT_40.replace("r0", "r1"));
        due.is("40, pass 1", second.typed(1, 1, 0), 40);
        due.is("40, pass 1, which", second.typed(1, 1, 1), 41);
        due.is("40, pass 1, its last letter", second.least(1, 41, 39), 0);
        due.is("40, pass 0", second.typed(0, 1, 0), 0);
        TreePasses w = laid(AT_42);
        due.is("42", w.typed(0, 1, 0), 41);
        due.is("42, which", w.typed(0, 1, 1), NONE);
        noneOf(w, 40);
        due.is("42, comes", w.comes(0), 12);
    }

    static void noneOf(TreePasses x, int profile) {
        for (int i : new int[] {-1, 0, 1, 39, 40, 41, HIGH}) {
            due.is("least of more than 40", x.least(0, profile, i), NONE);
        }
        due.is("least of more than 40, BAD ahead", x.least(0, profile, -2), BAD);
    }

    /** "TOTAL .. 0; else how many NODES the first .. has (by NODES, then LETTERS), that PROFILE". */
    static void totalOrNot() {
        TreePasses all = laid("r00a*=a;r00b*=a;r00c*=a;r00d*=a;r00e*=a;");
        due.is("total", all.total(0, 0, 0), 0);
        due.is("total, which", all.total(0, 0, 1), NONE);
        due.is("not total", all.total(0, 1, 0), 1);
        due.is("not total, which", all.total(0, 1, 1), 48);
        for (int f = 0; f < 5; f++) {
            TreePasses x = laid("r00a*=a;r00b*=a;r00c*=a;r00d*=a;r00e*=a;");
            x.cut(f);
            int nodes = f < 2 ? 1 : f == 2 ? 2 : 3;
            due.is("without " + f, x.total(0, 0, 0), nodes);
            due.is("without " + f + ", which", x.total(0, 0, 1), 52);
        }
        TreePasses a = laid("m0a=1;r01a*=a;");
        due.is("a ahead of b, by letters", a.total(0, 0, 1), 1 + 4 + 0 + 36);
        TreePasses zero = laid("r00a*=a;r01a*=a;r02a*=a;r00b*=a;r01b*=a;");
        due.is("a ahead of b, profile 0 ahead of 36", zero.typed(0, 0, 1), 0);
        TreePasses inside = laid("m0b=1;m0e=0101;r01e*=0y;r00e*=b;");
        due.is("of two with as many nodes the first by letters", inside.typed(0, 1, 1), 36);
        TreePasses forty = laid("m0c=01;m0d=1110;m0e=0001;m1d=1001;r00e1=a;r02d0=0y;r01d*=d2x2y;r02c0=da0x;r00d1=2y;r00d0=c1y;");
        due.is("of two of 40 nodes", forty.typed(0, 1, 0), 40);
        due.is("of two of 40 nodes the first by letters", forty.typed(0, 1, 1), 37);
        due.is("the other one", forty.least(0, 39, -1), 40);
        TreePasses b = laid("m0b=1;r00a*=a;r01a*=a;");
        due.is("b ahead of ca, by nodes", b.total(0, 0, 1), 53);
        TreePasses far = laid("m0d=1110;m0e=1011;r01c0=b;r00a*=b;r01e*=a;r01d*=0x;r02e1=b;r00d1=a;r01b*=a;r02d*=a;r02b0=a;"
            + "r02a0=b;r02c0=a;r00b0=b;r00e*=d1ya;r01a*=a;r02e*=1x;r00c*=b;");
        due.is("7", far.total(0, 0, 0), 7);
        due.is("9", far.total(0, 1, 0), 9);
        due.is("21", far.total(0, 2, 0), 21);
        due.is("21, its tree", far.least(0, far.total(0, 2, 1), -1), 21);
    }

    /** "TYPED is a STATE, if there is no TREE whose OUTPUT is of TYPE 0": one by which it is stuck is none. */
    static void typedOrNot() {
        TreePasses stuck = laid("r10a*=a;");
        due.is("always stuck", stuck.typed(0, 0, 0), 0);
        due.is("always stuck, which", stuck.typed(0, 0, 1), NONE);
        due.is("always stuck, total", stuck.total(0, 0, 0), 1);
        due.is("TYPE 0 of a", stuck.typed(1, 0, 0), 1);
        due.is("TYPE 0 of a, which", stuck.typed(1, 0, 1), 48);
        TreePasses one = laid("m1a=1;r00a*=a;r00b*=b;");
        due.is("b alone", one.typed(0, 0, 0), 1);
        due.is("b alone, which", one.typed(0, 0, 1), 48);
        due.is("b alone, its letter", one.least(0, 48, 0), 1);
        one.flip(1, 1, 0);
        due.is("none", one.typed(0, 0, 0), 0);
        one.undo();
        due.is("as it was", one.typed(0, 0, 0), 1);
    }

    /** What was answered of all trees holds no longer than what it was answered of. */
    static void askedAgain() {
        TreePasses x = laid("r00a*=a;r01a*=a;r02a*=a;r10b*=a;");
        allTreesAre(x, "at first", 2, 1, 2, 1);
        x.cut(3);
        allTreesAre(x, "cut", 2, 1, 1, 0);
        x.undo();
        allTreesAre(x, "undone", 2, 1, 2, 1);
        entered(x, 3, "00b*=a");
        allTreesAre(x, "entered", 3, 1, 1, 0);
        x.undo();
        x.keep();
        x.flip(0, 1, 0);
        allTreesAre(x, "flipped", 3, 1, 2, 1);
        x.flip(1, 0, 0);
        allTreesAre(x, "flipped", 3, 0, 2, 0);
        x.back();
        allTreesAre(x, "back", 2, 1, 2, 1);
        tell(x, "r00a*=a;r00b*=b;r00c*=a;r00d*=a;r00e*=a;");
        x.lay();
        allTreesAre(x, "laid", 1, 1, 1, 0);
        entered(x, 5, "00c*=0x");
        x.flip(1, 0, 0);
        x.flip(1, 1, 0);
        allTreesAre(x, "all of TYPE 1", 1, 0, 1, 0);
        tell(x, "r00a*=b;r00b*=b;r00c*=0x;r00c*=a;m1b=1;");
        x.lay();
        due.is("PLAIN", x.typed(0, 0, 0), 0);
        x.rename(0, 1);
        due.is("LAST", x.typed(0, 0, 0), 2);
        x.shift(3, 2);
        due.is("LAST, shifted", x.typed(0, 0, 0), 0);
    }

    static void allTreesAre(TreePasses x, String when, int comes, int typed, int comesToo, int typedToo) {
        due.is("comes 0, " + when, x.comes(0), comes);
        due.is("typed 0, " + when, x.typed(0, 0, 0), typed);
        due.is("comes 1, " + when, x.comes(1), comesToo);
        due.is("typed 1, " + when, x.typed(1, 0, 0), typedToo);
    }

    /** What a text doesn't tell is as without, not as it was: "a without", "0 without", "noughts without". */
    static void laidOverAnother() {
        TreePasses x = laid("t0=dab;t1=ccb;t2=eba;p03;p12;m0a=1;m0b=1;m0c=11;m0d=1111;m0e=1111;m1a=1;m1b=1;m1c=11;m1d=1111;m1e=1111;"
            + "r00a*=b;r11d1=e2y0x;");
        tell(x, "t1=b;r00b0=a;");
        due.is("lay", x.lay(), 1);
        same("t0", treeOf(x, 0), "a");
        same("t1", treeOf(x, 1), "b");
        same("t2", treeOf(x, 2), "a");
        due.is("kind 0", x.count(3), 0);
        due.is("kind 1", x.count(4), 0);
        for (int at = 0; at < 40; at++) {
            due.isTrue("noughts", x.table(at / 20, at / 4 % 5, at % 4) <= 0);
        }
        due.is("rules", x.count(0), 1);
        due.is("no other rule", x.rule(1, 0), BAD);
        tell(x, "t2=eba;p01;m1e=1111;r00a*=b;r00a*=a");
        due.is("refused", x.lay(), NO);
        tell(x, RULE);
        due.is("lay", x.lay(), 1);
        same("t2, told where it was refused", treeOf(x, 2), "a");
        due.is("kind, told where it was refused", x.count(3), 0);
        due.is("value, told where it was refused", x.table(1, 4, 0), 0);
        due.is("rules", x.count(0), 1);
    }

    // ---- kept

    /** "2 at most", "As KEPT last: how many are left; nothing is UNDONE then". */
    static void twoKept() {
        TreePasses x = fresh();
        due.is("none", x.back(), NO);
        due.is("the first", x.keep(), 1);
        due.is("cut", x.cut(0), 12);
        due.is("the second", x.keep(), 2);
        due.is("cut", x.cut(0), 11);
        due.is("a third", x.keep(), FULL);
        due.is("count 7", x.count(7), 2);
        due.is("count 6", x.count(6), 2);
        due.is("the last", x.back(), 1);
        due.is("as it was", x.count(0), 12);
        due.is("nothing undone", x.count(6), 0);
        due.is("nothing undone", x.undo(), NO);
        due.is("kept once more", x.keep(), 2);
        due.is("full again", x.keep(), FULL);
        due.is("the same", x.back(), 1);
        due.is("the first", x.back(), 0);
        due.is("as it was", x.count(0), 13);
        due.is("none is left", x.back(), NO);
        due.is("count 7", x.count(7), 0);
    }

    /** "LAID: .. nothing UNDONE, KEPT": not where it is refused. */
    static void laidForgets() {
        TreePasses x = fresh();
        x.keep();
        x.keep();
        x.cut(0);
        tell(x, "t0=a;");
        due.is("refused", x.lay(), NO);
        due.is("count 6", x.count(6), 1);
        due.is("count 7", x.count(7), 2);
        tell(x, RULE);
        due.is("laid", x.lay(), 1);
        due.is("count 6", x.count(6), 0);
        due.is("count 7", x.count(7), 0);
        due.is("undo", x.undo(), NO);
        due.is("back", x.back(), NO);
        due.is("count 8", x.count(8), 8);
    }

    public static void main(String[] args) {
        due = new Due("EdgesTest");
        numbersOfPrograms();
        numbersOfActs();
        numbersOfAsks();
        rows();
        valuesByChildren();
        cutToNone();
        shiftAll();
        leafLetters();
        flipEach();
        renameEach();
        lastEight();
        longAtForty();
        stuckOrLong();
        stuckAtEach();
        stuckFirst();
        oneLeavesOut();
        oneGoesOn();
        oneTakesStars();
        linearOrWhole();
        visitsTill();
        allProfiles();
        leastOfSeveral();
        fortyNodes();
        totalOrNot();
        typedOrNot();
        askedAgain();
        laidOverAnother();
        twoKept();
        laidForgets();
        due.end();
    }
}
