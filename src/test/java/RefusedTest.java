import java.util.ArrayDeque;
import java.util.Deque;
import java.util.HashMap;
import java.util.Map;
import java.util.Random;
import java.util.function.Supplier;
import java.util.function.ToIntFunction;

/** "Of several the first; nothing changes then": each refused call, in objects that hold much and little. */
public final class RefusedTest extends Bench {
    static final int AB = 'a';
    static final Map<Supplier<TreePasses>, String> held = new HashMap<>();

    /** As it is made: nothing to undo, none kept, no text. */
    static TreePasses poor() {
        return fresh();
    }

    /** All is full but the rules: 8 to undo, 2 kept, a text of 200 letters that can be laid. */
    static TreePasses rich() {
        TreePasses x = fresh();
        x.leaf(0, 2, 1);
        x.keep();
        x.rename(0, 3);
        x.flip(0, 0, 0);
        x.keep();
        x.cut(12);
        x.shift(0, 11);
        entered(x, 0, "00e*=d0x1y");
        x.rename(1, 2);
        x.flip(1, 4, 3);
        x.leaf(1, 2, 0);
        x.leaf(2, 0, 3);
        tell(x, "r00a*=a;".repeat(16) + "p01;".repeat(18));
        return x;
    }

    /** 16 rules, and a text that is a rule. */
    static TreePasses crowded() {
        TreePasses x = laid("t0=dcab;t1=cccccccccca;t2=b;" + "r00a*=a;r00b*=b;r01c*=0x;r00d*=0y;".repeat(4));
        x.cut(3);
        x.keep();
        entered(x, 15, "12e1=dd0x1yd2xb");
        return x;
    }

    /** No rule is left, and a text with a fault in its second item. */
    static TreePasses ruleless() {
        TreePasses x = laid("t0=ca;r00a*=a;");
        x.cut(0);
        tell(x, "r00a*=a;t0=da;");
        return x;
    }

    /** A text that tells no rule. */
    static TreePasses treesTold() {
        TreePasses x = fresh();
        x.cut(0);
        x.keep();
        tell(x, "t0=ca;p01;m0a=1;");
        return x;
    }

    /** A text without fault but for its 17th rule. */
    static TreePasses seventeenTold() {
        TreePasses x = fresh();
        x.rename(0, 1);
        x.keep();
        tell(x, "r00a*=b;".repeat(17));
        return x;
    }

    static void refused(String what, Supplier<TreePasses> maker, ToIntFunction<TreePasses> call, int want) {
        TreePasses x = maker.get();
        due.is(what, call.applyAsInt(x), want);
        String was = held.computeIfAbsent(maker, m -> unfolded(m.get()));
        due.isTrue(what + " changed something", unfolded(x).equals(was));
    }

    static void programs() {
        Supplier<TreePasses> poor = RefusedTest::poor, rich = RefusedTest::rich, crowded = RefusedTest::crowded;
        refused("write 31", poor, x -> x.write(31), BAD);
        refused("write 127", poor, x -> x.write(127), BAD);
        refused("write the 201st", rich, x -> x.write(AB), FULL);
        refused("write the 201st, BAD ahead of FULL", rich, x -> x.write(31), BAD);
        refused("write the 201st, BAD ahead of FULL", rich, x -> x.write(127), BAD);
        refused("lay an empty text", poor, x -> x.lay(), NO);
        refused("lay a rule alone", crowded, x -> x.lay(), NO);
        refused("lay with a fault behind a rule", RefusedTest::ruleless, x -> x.lay(), NO);
        refused("lay without a rule", RefusedTest::treesTold, x -> x.lay(), NO);
        refused("lay 17 rules", RefusedTest::seventeenTold, x -> x.lay(), NO);
        refused("tree 3", rich, x -> x.tree(3, -1), BAD);
        refused("tree, BAD ahead of NONE", rich, x -> x.tree(3, 99), BAD);
        refused("tree, node 6 of 6", rich, x -> x.tree(2, 6), NONE);
        refused("value", rich, x -> x.value(0, 2, 6), BAD);
        refused("table", rich, x -> x.table(0, 2, 2), BAD);
        refused("rule", crowded, x -> x.rule(16, 0), BAD);
        refused("piece", crowded, x -> x.piece(16, 0), BAD);
        refused("piece, BAD ahead of NONE", crowded, x -> x.piece(16, 99), BAD);
        refused("piece 7", crowded, x -> x.piece(15, 7), NONE);
    }

    static void entering() {
        Supplier<TreePasses> poor = RefusedTest::poor, rich = RefusedTest::rich, crowded = RefusedTest::crowded;
        refused("enter no text", poor, x -> x.enter(0), -10);
        refused("enter no text behind all", poor, x -> x.enter(13), -10);
        refused("enter, BAD ahead of the text", poor, x -> x.enter(14), BAD);
        refused("enter, BAD ahead of the text", poor, x -> x.enter(-1), BAD);
        refused("enter a program", rich, x -> x.enter(0), -10);
        refused("enter a 17th", crowded, x -> x.enter(16), FULL);
        refused("enter, BAD ahead of FULL", crowded, x -> x.enter(17), BAD);
        refused("enter, BAD below 0", crowded, x -> x.enter(-1), BAD);
        refused("enter, FULL ahead of the text", crowded, x -> fullAhead(x), FULL);
        refused("enter behind none", RefusedTest::ruleless, x -> x.enter(1), BAD);
        refused("enter with a fault", RefusedTest::ruleless, x -> x.enter(0), -10);
    }

    /** Spoils the text by a letter, asks, and tells the text again as it was. */
    static int fullAhead(TreePasses x) {
        x.write(AB);
        int answer = x.enter(16);
        tell(x, "12e1=dd0x1yd2xb");
        return answer;
    }

    static void otherActs() {
        Supplier<TreePasses> poor = RefusedTest::poor, rich = RefusedTest::rich, crowded = RefusedTest::crowded;
        refused("cut 16 of 16", crowded, x -> x.cut(16), BAD);
        refused("cut -1", crowded, x -> x.cut(-1), BAD);
        refused("cut 0 of none", RefusedTest::ruleless, x -> x.cut(0), BAD);
        refused("shift to its place", rich, x -> x.shift(0, 0), NO);
        refused("shift to its place", crowded, x -> x.shift(15, 15), NO);
        refused("shift, BAD ahead of NO", crowded, x -> x.shift(16, 16), BAD);
        refused("shift, BAD ahead of NO", crowded, x -> x.shift(-1, -1), BAD);
        refused("shift to 16", crowded, x -> x.shift(0, 16), BAD);
        refused("shift to -1", crowded, x -> x.shift(0, -1), BAD);
        refused("shift 0 of none", RefusedTest::ruleless, x -> x.shift(0, 0), BAD);
        refused("leaf as it is", rich, x -> x.leaf(0, 2, 1), NO);
        refused("leaf as it is", poor, x -> x.leaf(0, 1, 2), NO);
        refused("leaf with a child more", rich, x -> x.leaf(0, 2, 2), BAD);
        refused("leaf with a child less", rich, x -> x.leaf(0, 0, 2), BAD);
        refused("leaf without a node", rich, x -> x.leaf(0, 4, 0), BAD);
        refused("leaf of letter 5", rich, x -> x.leaf(0, 0, 5), BAD);
        refused("flip", rich, x -> x.flip(0, 0, 1), BAD);
        refused("flip", rich, x -> x.flip(1, 4, 4), BAD);
        refused("rename as it is", rich, x -> x.rename(0, 3), NO);
        refused("rename as it is", poor, x -> x.rename(1, 0), NO);
        refused("rename to 4", rich, x -> x.rename(0, 4), BAD);
        refused("rename pass 2", rich, x -> x.rename(2, 0), BAD);
        refused("undo", poor, x -> x.undo(), NO);
        refused("keep a third", rich, x -> x.keep(), FULL);
        refused("back", poor, x -> x.back(), NO);
        refused("count", rich, x -> x.count(9), BAD);
        refused("count", rich, x -> x.count(-1), BAD);
    }

    static void asks() {
        Supplier<TreePasses> rich = RefusedTest::rich, crowded = RefusedTest::crowded;
        refused("out", rich, x -> x.out(0, 0, 3, 0), BAD);
        refused("out below -1", rich, x -> x.out(0, 0, 0, -2), BAD);
        refused("out stuck", crowded, x -> x.out(0, 0, 1, -1), -10);
        refused("both", rich, x -> x.both(3, 0), BAD);
        refused("both", rich, x -> x.both(0, -2), BAD);
        refused("one", rich, x -> x.one(3, 0), BAD);
        refused("one", rich, x -> x.one(0, -2), BAD);
        refused("linear", rich, x -> x.linear(0, 2), BAD);
        refused("visits", rich, x -> x.visits(0, 0, 4), BAD);
        refused("comes", rich, x -> x.comes(2), BAD);
        refused("least", rich, x -> x.least(0, 54, -1), BAD);
        refused("least", rich, x -> x.least(0, 53, -2), BAD);
        refused("least, not so many", rich, x -> x.least(0, 0, 40), NONE);
        refused("total", rich, x -> x.total(0, 3, 0), BAD);
        refused("typed", rich, x -> x.typed(0, 0, 2), BAD);
        refused("all that is asked", rich, x -> shown(x).isEmpty() ? 1 : 0, 0);
        refused("all that is asked", crowded, x -> shown(x).isEmpty() ? 1 : 0, 0);
    }

    // ---- what can be undone, what is kept

    static final Random random = new Random(40);

    /** One act of those that can be undone, if it isn't refused. */
    static int actAtRandom(TreePasses x) {
        int rules = x.count(0);
        switch (random.nextInt(6)) {
            case 0: return x.enter(random.nextInt(rules + 1));
            case 1: return x.cut(random.nextInt(rules + 1));
            case 2: return x.shift(random.nextInt(rules + 1), random.nextInt(rules + 1));
            case 3: return x.leaf(random.nextInt(3), random.nextInt(4), random.nextInt(5));
            case 4: return x.flip(random.nextInt(2), random.nextInt(5), random.nextInt(4));
            default: return x.rename(random.nextInt(2), random.nextInt(4));
        }
    }

    static String stands(TreePasses x) {
        StringBuilder s = new StringBuilder();
        for (int what = 0; what < 6; what++) {
            s.append(x.count(what)).append(' ');
        }
        String all = shown(x);
        int at = 0;
        for (int what = 0; what < 9; what++) {
            at = all.indexOf(' ', at) + 1;
        }
        return s.append(all.substring(at)).toString();
    }

    /** Acts, undo, keep and back in any order, beside rows of what stood: the last 8, the last 2. */
    static void chains() {
        for (int run = 0; run < 40; run++) {
            TreePasses x = fresh();
            tell(x, "0" + run % 3 + "d*=d0y1x");
            Deque<String> past = new ArrayDeque<>(), kept = new ArrayDeque<>();
            for (int n = 0; n < 120; n++) {
                chainStep(x, past, kept);
                due.is("count 6", x.count(6), past.size());
                due.is("count 7", x.count(7), kept.size());
                due.is("count 8", x.count(8), 10);
            }
        }
    }

    static void chainStep(TreePasses x, Deque<String> past, Deque<String> kept) {
        int which = random.nextInt(20);
        String was = stands(x);
        if (which < 12) {
            if (actAtRandom(x) >= 0) {
                past.push(was);
                if (past.size() > 8) {
                    past.removeLast();
                }
            } else {
                same("a refused act", stands(x), was);
            }
        } else if (which < 17) {
            due.is("undo", x.undo(), past.isEmpty() ? NO : past.size() - 1);
            same("undone", stands(x), past.isEmpty() ? was : past.pop());
        } else if (which < 19) {
            due.is("keep", x.keep(), kept.size() == 2 ? FULL : kept.size() + 1);
            same("kept", stands(x), was);
            if (kept.size() < 2) {
                kept.push(was);
            }
        } else {
            due.is("back", x.back(), kept.isEmpty() ? NO : kept.size() - 1);
            if (!kept.isEmpty()) {
                past.clear();
            }
            same("back", stands(x), kept.isEmpty() ? was : kept.pop());
        }
    }

    public static void main(String[] args) {
        due = new Due("RefusedTest");
        programs();
        entering();
        otherActs();
        asks();
        chains();
        due.end();
    }
}
