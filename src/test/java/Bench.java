/** What the tests that are written by hand have in common: texts told, laid, entered, rows of letters read. */
abstract class Bench {
    static final int BAD = -1, NO = -2, FULL = -3, NONE = -4;
    static final int LOW = Integer.MIN_VALUE, HIGH = Integer.MAX_VALUE;
    static Due due = new Due("Bench");

    static TreePasses fresh() {
        return new TreePasses();
    }

    static TreePasses told(String text) {
        TreePasses x = fresh();
        tell(x, text);
        return x;
    }

    static void tell(TreePasses x, String text) {
        x.wipe();
        for (int i = 0; i < text.length(); i++) {
            due.is("write", x.write(text.charAt(i)), i + 1);
        }
    }

    static TreePasses laid(String text) {
        TreePasses x = told(text);
        due.isTrue("lay " + text, x.lay() > 0);
        return x;
    }

    static int entered(TreePasses x, int r, String body) {
        tell(x, body);
        return x.enter(r);
    }

    static String row(int size, java.util.function.IntUnaryOperator letter) {
        StringBuilder s = new StringBuilder();
        for (int i = 0; i < size; i++) {
            s.append((char) ('a' + letter.applyAsInt(i)));
        }
        return s.toString();
    }

    static String outOf(TreePasses x, int p, int q, int t) {
        return row(x.out(p, q, t, -1), i -> x.out(p, q, t, i));
    }

    static String bothOf(TreePasses x, int t) {
        return row(x.both(t, -1), i -> x.both(t, i));
    }

    static String oneOf(TreePasses x, int t) {
        return row(x.one(t, -1), i -> x.one(t, i));
    }

    static String treeOf(TreePasses x, int t) {
        return row(x.tree(t, -1), i -> x.tree(t, i));
    }

    static String leastOf(TreePasses x, int p, int profile) {
        return row(x.least(p, profile, -1), i -> x.least(p, profile, i));
    }

    static void same(String what, String got, String want) {
        due.isTrue(what + " is " + got + ", due is " + want, got.equals(want));
    }

    /** All that the face tells without a change. */
    static String shown(TreePasses x) {
        StringBuilder s = new StringBuilder();
        for (int what = 0; what < 9; what++) {
            add(s, x.count(what));
        }
        add(s, x.fault());
        showProgram(s, x);
        showTrees(s, x);
        showProfiles(s, x);
        return s.toString();
    }

    private static void showProgram(StringBuilder s, TreePasses x) {
        for (int m = 0; m < 2; m++) {
            for (int k = 0; k < 20; k++) {
                add(s, x.table(m, k / 4, k % 4));
            }
        }
        for (int r = 0; r < 16; r++) {
            for (int i = 0; i < 7; i++) {
                add(s, x.rule(r, i));
                add(s, x.piece(r, i));
            }
        }
        for (int p = 0; p < 2; p++) {
            add(s, x.linear(p, 0));
            add(s, x.linear(p, 1));
        }
    }

    private static void showTrees(StringBuilder s, TreePasses x) {
        for (int t = 0; t < 3; t++) {
            for (int v = -1; v < 11; v++) {
                add(s, x.tree(t, v));
                for (int p = 0; p < 2; p++) {
                    add(s, x.value(p, t, v));
                    add(s, x.visits(p, t, v));
                }
            }
            for (int i = -1; i < 41; i++) {
                for (int q = 0; q < 6; q++) {
                    add(s, x.out(q / 3, q % 3, t, i));
                }
                add(s, x.both(t, i));
                add(s, x.one(t, i));
            }
        }
    }

    private static void showProfiles(StringBuilder s, TreePasses x) {
        for (int p = 0; p < 2; p++) {
            add(s, x.comes(p));
            for (int profile = 0; profile < 54; profile++) {
                for (int i = -1; i < Math.max(0, x.least(p, profile, -1)); i++) {
                    add(s, x.least(p, profile, i));
                }
            }
            for (int q = 0; q < 3; q++) {
                for (int what = 0; what < 2; what++) {
                    add(s, x.total(p, q, what));
                    add(s, x.typed(p, q, what));
                }
            }
        }
    }

    private static void add(StringBuilder s, int answer) {
        s.append(answer).append(' ');
    }

    /** All that an object holds: what it shows now, behind each undo, behind each back, with its text entered and laid. */
    static String unfolded(TreePasses x) {
        StringBuilder s = new StringBuilder(shown(x));
        while (x.undo() >= 0) {
            s.append("\nundone ").append(shown(x));
        }
        while (x.back() >= 0) {
            s.append("\nback ").append(shown(x));
        }
        s.append("\nentered ").append(x.enter(0)).append(' ').append(shown(x));
        s.append("\nlaid ").append(x.lay()).append(' ').append(shown(x));
        return s.toString();
    }
}
