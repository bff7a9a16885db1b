import java.util.Random;

/** Calls of all kinds with any numbers, in any order: none may throw, and a wrong number changes nothing. */
public final class WildTest {
    static final Random random = new Random(7);
    static final int[] EDGES = {Integer.MIN_VALUE, Integer.MIN_VALUE + 1, -61, -11, -5, -4, -3, -2, -1, 0, 1, 2, 3, 4, 5, 7, 8,
        10, 11, 12, 15, 16, 17, 39, 40, 41, 53, 54, 199, 200, Integer.MAX_VALUE - 1, Integer.MAX_VALUE};
    static final String SIGNS = "tpmr0123*=abcdexy;";

    static int n() {
        return random.nextInt(3) > 0 ? random.nextInt(6) - 1 : EDGES[random.nextInt(EDGES.length)];
    }

    static int call(TreePasses x, int which) {
        switch (which) {
            case 0: return x.write(n());
            case 1: return x.wipe();
            case 2: return x.fault();
            case 3: return x.lay();
            case 4: return x.tree(n(), n());
            case 5: return x.value(n(), n(), n());
            case 6: return x.table(n(), n(), n());
            case 7: return x.rule(n(), n());
            case 8: return x.piece(n(), n());
            case 9: return x.enter(n());
            case 10: return x.cut(n());
            case 11: return x.shift(n(), n());
            case 12: return x.leaf(n(), n(), n());
            case 13: return x.flip(n(), n(), n());
            case 14: return x.rename(n(), n());
            case 15: return x.undo();
            case 16: return x.out(n(), n(), n(), n());
            case 17: return x.both(n(), n());
            case 18: return x.one(n(), n());
            case 19: return x.linear(n(), n());
            case 20: return x.visits(n(), n(), n());
            case 21: return x.comes(n());
            case 22: return x.least(n(), n(), n());
            case 23: return x.total(n(), n(), n());
            case 24: return x.typed(n(), n(), n());
            case 25: return x.keep();
            case 26: return x.back();
            case 27: return x.count(n());
            default: return x.write(SIGNS.charAt(random.nextInt(SIGNS.length())));
        }
    }

    /** All that the face shows but the text: what a refused call must leave as it was. */
    static String shown(TreePasses x) {
        StringBuilder s = new StringBuilder();
        for (int what = 0; what < 9; what++) {
            s.append(x.count(what)).append(' ');
        }
        for (int t = 0; t < 3; t++) {
            for (int v = 0; v < 11; v++) {
                s.append(x.tree(t, v)).append(' ');
            }
        }
        for (int r = 0; r < 16; r++) {
            for (int i = 0; i < 8; i++) {
                s.append(x.rule(r, i)).append(' ').append(x.piece(r, i)).append(' ');
            }
        }
        for (int k = 0; k < 40; k++) {
            s.append(x.table(k / 20, k / 4 % 5, k % 4)).append(' ');
        }
        return s.toString();
    }

    public static void main(String[] args) {
        Due due = new Due("WildTest");
        for (int run = 0; run < 300; run++) {
            TreePasses x = new TreePasses();
            for (int n = 0; n < 512; n++) {
                String was = shown(x);
                int which = random.nextInt(32);
                int answer = call(x, which);
                boolean asks = which >= 2 && which <= 8 && which != 3 || which >= 16 && which <= 24 || which == 27;
                if (asks || answer < 0) {
                    due.isTrue("call " + which + " that answered " + answer + " changed what stands", was.equals(shown(x)));
                }
            }
        }
        due.end();
    }
}
