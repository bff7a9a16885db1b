/** Each promise of the document: ordinary inputs, the edges that it names, wrong inputs. */
public final class PromisesTest extends Bench {
    static void newObject() {
        TreePasses x = fresh();
        due.is("count 0", x.count(0), 13);
        due.is("count 8", x.count(8), 0);
        due.is("count 6", x.count(6), 0);
        due.is("count 7", x.count(7), 0);
        same("t0", treeOf(x, 0), "dcab");
        same("t1", treeOf(x, 1), "ccb");
        same("t2", treeOf(x, 2), "edabca");
        due.is("BAD", TreePasses.BAD, -1);
        due.is("NO", TreePasses.NO, -2);
        due.is("FULL", TreePasses.FULL, -3);
        due.is("NONE", TreePasses.NONE, -4);
    }

    static void writeAndWipe() {
        TreePasses x = fresh();
        due.is("write 31", x.write(31), BAD);
        due.is("write 127", x.write(127), BAD);
        due.is("write LOW", x.write(LOW), BAD);
        due.is("write HIGH", x.write(HIGH), BAD);
        due.is("write 32", x.write(32), 1);
        due.is("write 126", x.write(126), 2);
        for (int n = 3; n <= 200; n++) {
            due.is("write", x.write('a'), n);
        }
        due.is("write 201st", x.write('a'), FULL);
        due.is("write 201st, bad", x.write(10), BAD);
        due.is("count 8", x.count(8), 200);
        due.is("wipe", x.wipe(), 200);
        due.is("wipe", x.wipe(), 0);
        due.is("write", x.write('a'), 1);
    }

    static void fault() {
        String[] good = {"", "t0=a;", "t2=dddddaaaaab;", "p03;p10;", "m0a=1;m1e=0101;m0c=10;", "r00a*=a;",
            "r12e1=dd0x1yd2x0y;", "r01c0=2x;", "r00b1=ddab" + "cca;", "t0=a;t0=b;"};
        for (String text : good) {
            due.is("fault " + text, told(text).fault(), NONE);
        }
        String[] bad = {"x", ";", " ", "t", "t0", "t0=", "t0=a", "t3=a;", "t0a;", "t0=f;", "t0=aa;", "t0=da;", "t0=0x;",
            "t0=cdddddaaaaaa;", "p;", "p0;", "p20;", "p04;", "p000;", "p0=1;", "m2a=1;", "m0f=1;", "m0a1;", "m0a=;",
            "m0a=2;", "m0a=00;", "m0c=0;", "m0c=000;", "m0d=000;", "m0d=00000;", "r20a*=a;", "r03a*=a;", "r00f*=a;",
            "r00a2=a;", "r00aa;", "r00a*=;", "r00a*=0x;", "r00c*=0y;", "r00c*=3x;", "r00c*=0;", "r00d*=0z;",
            "r00d*=d0x;", "r00d*=0x0y;", "r00a*=dddaaabca;", "r00a*=a", "R00a*=a;", "t0=A;", "t0 =a;"};
        for (String text : bad) {
            due.is("fault " + text, told(text).fault(), 0);
            due.is("fault t1=ca;" + text, told("t1=ca;" + text).fault(), 6);
            due.is("lay " + text, told("r00a*=a;" + text).lay(), NO);
        }
        due.is("17 rules", told("r00a*=a;".repeat(17)).fault(), 128);
        due.is("16 rules", told("r00a*=a;".repeat(16)).fault(), NONE);
    }

    static void lay() {
        TreePasses x = told("t1=cb;t1=ca;p13;p12;m1d=0110;r00a*=b;r11d1=e2y0x;");
        x.keep();
        x.cut(0);
        due.is("lay", x.lay(), 2);
        due.is("undo", x.undo(), NO);
        due.is("back", x.back(), NO);
        same("t0", treeOf(x, 0), "a");
        same("t1", treeOf(x, 1), "ca");
        due.is("kind 0", x.count(3), 0);
        due.is("kind 1", x.count(4), 2);
        due.is("table", x.table(1, 3, 1), 1);
        due.is("table", x.table(0, 3, 1), 0);
        due.is("table", x.table(1, 0, 0), 0);
        due.is("count 8", x.count(8), 49);
        due.is("lay again", x.lay(), 2);
        tell(x, "t0=cca;");
        due.is("lay without a rule", x.lay(), NO);
        due.is("lay empty", told("").lay(), NO);
        same("t0 as it was", treeOf(x, 0), "a");
        due.is("lay of 16", told("r00a*=a;".repeat(16)).lay(), 16);
        TreePasses y = fresh();
        y.cut(0);
        y.keep();
        tell(y, "r00a*=a");
        due.is("no lay", y.lay(), NO);
        due.is("count 0", y.count(0), 12);
        due.is("count 6", y.count(6), 1);
        due.is("count 7", y.count(7), 1);
    }

    static void treeValueTable() {
        TreePasses x = fresh();
        due.is("tree", x.tree(1, 2), 1);
        due.is("tree", x.tree(1, 3), NONE);
        due.is("tree", x.tree(1, HIGH), NONE);
        due.is("tree", x.tree(1, -2), BAD);
        due.is("tree", x.tree(-1, 0), BAD);
        due.is("tree", x.tree(3, 99), BAD);
        due.is("value", x.value(0, 1, 0), 1);
        due.is("value", x.value(0, 2, 1), 1);
        due.is("value", x.value(0, 2, 0), 0);
        due.is("value", x.value(1, 2, 5), 1);
        due.is("value", x.value(2, 0, 0), BAD);
        due.is("value", x.value(-1, 0, 0), BAD);
        due.is("value", x.value(0, 3, 0), BAD);
        due.is("value", x.value(0, 0, 4), BAD);
        due.is("value", x.value(0, 0, -1), BAD);
        int[] has = {1, 1, 2, 4, 4};
        for (int f = 0; f < 5; f++) {
            due.isTrue("table", x.table(0, f, has[f] - 1) >= 0);
            due.is("table", x.table(0, f, has[f]), BAD);
            due.is("table", x.table(0, f, -1), BAD);
        }
        due.is("table", x.table(2, 0, 0), BAD);
        due.is("table", x.table(0, 5, 0), BAD);
        due.is("table", x.table(0, -1, 0), BAD);
        due.is("first child first", laid("t0=dab;m0b=1;m0d=0100;r00a*=a;").value(0, 0, 0), 1);
        due.is("second child second", laid("t0=dba;m0b=1;m0d=0100;r00a*=a;").value(0, 0, 0), 0);
    }

    static void ruleAndPiece() {
        TreePasses x = laid("r12e1=dd0x1yd2xb;");
        int[] wants = {1, 2, 4, 1, 7};
        for (int what = 0; what < 5; what++) {
            due.is("rule", x.rule(0, what), wants[what]);
        }
        due.is("rule", x.rule(0, 5), BAD);
        due.is("rule", x.rule(0, -1), BAD);
        due.is("rule", x.rule(1, 0), BAD);
        due.is("rule", x.rule(-1, 0), BAD);
        int[] pieces = {3, 3, 10, 13, 3, 14, 1};
        for (int i = 0; i < 7; i++) {
            due.is("piece", x.piece(0, i), pieces[i]);
        }
        due.is("piece", x.piece(0, 7), NONE);
        due.is("piece", x.piece(0, HIGH), NONE);
        due.is("piece", x.piece(0, -1), BAD);
        due.is("piece", x.piece(1, 0), BAD);
        due.is("piece", x.piece(1, 9), BAD);
        due.is("piece", laid("r00d*=2y;").piece(0, 0), 15);
    }

    static void enter() {
        TreePasses x = laid("r00a*=a;r00b*=b;");
        due.is("in place", entered(x, 0, "11c0=2x"), 2);
        due.is("rule", x.rule(0, 0), 1);
        due.is("rule", x.rule(0, 4), 1);
        due.is("behind all", entered(x, 2, "00d*=1y"), 3);
        due.is("text stays", x.count(8), 7);
        due.is("BAD", x.enter(4), BAD);
        due.is("BAD", x.enter(-1), BAD);
        due.is("count 6", x.count(6), 2);
        String[] stops = {"|", "|x", "|2", "0|", "0|3", "00|", "00|f", "00a|", "00a|2", "00a*|", "00a*|a", "00a*=|",
            "00a*=|;", "00a*=a|b", "00a*=a|;", "00a*=d|", "00a*=da|", "00a*=|0x", "00c*=|3x", "00c*=0|", "00c*=0|y",
            "00d*=0|a", "00d*=d0x|", "00d*=0x|0y", "00a*=c|x", "00a*=c|C", "00a*=ddd|daaaaa", "00a*=cccccc|cb",
            "00a*=cccccc|c", "00a*=ddda|cabb", "00d*=ddd|e0x0x0x0x0x"};
        for (String stop : stops) {
            int at = stop.indexOf('|');
            due.is("enter " + stop, entered(x, 0, stop.replace("|", "")), -10 - at);
        }
        due.is("7 pieces", entered(x, 0, "00a*=dddaaab"), 3);
        due.is("7 pieces", entered(x, 0, "00a*=ccccccb"), 3);
        due.is("count 6", x.count(6), 4);
        TreePasses y = laid("r00a*=a;".repeat(16));
        due.is("FULL ahead", entered(y, 16, "zz"), FULL);
        due.is("FULL", entered(y, 16, "00b*=b"), FULL);
        due.is("BAD", y.enter(17), BAD);
        due.is("in place of one of 16", y.enter(15), 16);
        due.is("it is there", y.rule(15, 2), 1);
    }

    static void cutAndShift() {
        TreePasses x = laid("r00a*=a;r00b*=a;r00c*=a;r00d*=a;r00e*=a;");
        same("at first", letters(x), "abcde");
        due.is("shift", x.shift(1, 3), 2);
        same("up", letters(x), "acdbe");
        due.is("shift", x.shift(4, 0), 4);
        same("down", letters(x), "eacdb");
        due.is("shift", x.shift(2, 2), NO);
        due.is("shift", x.shift(5, 5), BAD);
        due.is("shift", x.shift(0, 5), BAD);
        due.is("shift", x.shift(-1, 0), BAD);
        due.is("shift", x.shift(0, -1), BAD);
        due.is("cut", x.cut(5), BAD);
        due.is("cut", x.cut(-1), BAD);
        due.is("cut", x.cut(2), 4);
        same("cut", letters(x), "eadb");
        due.is("cut", x.cut(3), 3);
        same("cut", letters(x), "ead");
    }

    static String letters(TreePasses x) {
        return row(x.count(0), r -> x.rule(r, 2));
    }

    static void leafFlipRename() {
        TreePasses x = fresh();
        due.is("leaf", x.leaf(2, 0, 3), 4);
        due.is("leaf", x.leaf(2, 2, 1), 0);
        same("t2", treeOf(x, 2), "ddbbca");
        due.is("leaf", x.leaf(2, 2, 1), NO);
        due.is("leaf", x.leaf(2, 4, 2), NO);
        due.is("leaf", x.leaf(2, 4, 0), BAD);
        due.is("leaf", x.leaf(2, 4, 3), BAD);
        due.is("leaf", x.leaf(2, 6, 0), BAD);
        due.is("leaf", x.leaf(2, -1, 0), BAD);
        due.is("leaf", x.leaf(3, 0, 0), BAD);
        due.is("leaf", x.leaf(0, 0, 5), BAD);
        due.is("leaf", x.leaf(0, 0, -1), BAD);
        due.is("flip", x.flip(1, 3, 3), 0);
        due.is("table", x.table(1, 3, 3), 0);
        due.is("flip", x.flip(1, 3, 3), 1);
        due.is("flip", x.flip(1, 3, 4), BAD);
        due.is("flip", x.flip(0, 0, 1), BAD);
        due.is("flip", x.flip(2, 0, 0), BAD);
        due.is("flip", x.flip(0, 5, 0), BAD);
        due.is("rename", x.rename(1, 3), 0);
        due.is("rename", x.rename(1, 1), 3);
        due.is("rename", x.rename(1, 1), NO);
        due.is("rename", x.rename(1, 4), BAD);
        due.is("rename", x.rename(2, 0), BAD);
        due.is("rename", x.rename(0, -1), BAD);
        due.is("count 6", x.count(6), 6);
    }

    static void undo() {
        TreePasses x = fresh();
        due.is("undo", x.undo(), NO);
        x.leaf(0, 2, 1);
        x.flip(0, 0, 0);
        x.rename(0, 3);
        x.cut(12);
        x.shift(0, 11);
        entered(x, 0, "00e*=a");
        due.is("undo", x.undo(), 5);
        due.is("rule", x.rule(0, 2), 1);
        due.is("undo", x.undo(), 4);
        due.is("rule", x.rule(0, 2), 0);
        due.is("undo", x.undo(), 3);
        due.is("rule", x.rule(12, 2), 1);
        due.is("undo", x.undo(), 2);
        due.is("kind", x.count(3), 0);
        due.is("undo", x.undo(), 1);
        due.is("table", x.table(0, 0, 0), 0);
        due.is("undo", x.undo(), 0);
        due.is("tree", x.tree(0, 2), 0);
        due.is("undo", x.undo(), NO);
        for (int n = 0; n < 11; n++) {
            x.cut(0);
        }
        due.is("count 6", x.count(6), 8);
        for (int n = 7; n >= 0; n--) {
            due.is("undo", x.undo(), n);
        }
        due.is("undo", x.undo(), NO);
        due.is("the last 8", x.count(0), 10);
        due.is("what was asked in vain", x.cut(99), BAD);
        due.is("changes nothing", x.count(6), 0);
        due.is("text", x.count(8), 6);
    }

    static void outputs() {
        TreePasses x = laid("t0=dab;m0b=1;m0d=0101;r00a*=a;r00b*=b;r00d0=c0x;r00d1=d0y0x;r00d*=e0x0y;");
        same("the first", outOf(x, 0, 0, 0), "dba");
        x.rename(0, 1);
        same("the last", outOf(x, 0, 0, 0), "eab");
        x.rename(0, 2);
        same("mirrored", outOf(x, 0, 0, 0), "dab");
        x.rename(0, 3);
        same("contrary", outOf(x, 0, 0, 0), "eba");
        x.leaf(0, 2, 0);
        x.rename(0, 0);
        same("by look", outOf(x, 0, 0, 0), "ca");
        due.is("not so many", x.out(0, 0, 0, 2), NONE);
        due.is("not so many", x.out(0, 0, 0, HIGH), NONE);
        due.is("BAD", x.out(0, 0, 0, -2), BAD);
        due.is("BAD", x.out(2, 0, 0, 0), BAD);
        due.is("BAD", x.out(-1, 0, 0, 0), BAD);
        due.is("BAD", x.out(0, 3, 0, 0), BAD);
        due.is("BAD", x.out(0, 0, 3, 0), BAD);
        due.is("stuck", x.out(0, 1, 0, 5), -10);
        due.is("stuck, BAD ahead", x.out(0, 1, 0, -2), BAD);
        same("mirrored, one child", outOf(laid("t0=ca;p02;r00c*=c0x;r00a*=b;"), 0, 0, 0), "cb");
        TreePasses y = laid("t0=ddbab;r00d*=d0y0x;r00b*=b;");
        due.is("stuck at the first in the order of the output", y.out(0, 0, 0, -1), -13);
    }

    static void longOutputs() {
        String nine = "r00c*=ccccc0x;";
        TreePasses x = laid("t0=ccccccca;t1=cccccccb;" + nine + "r00a*=cccca;r00b*=ccccca;");
        due.is("40", x.out(0, 0, 0, -1), 40);
        due.is("the last", x.out(0, 0, 0, 39), 0);
        due.is("over", x.out(0, 0, 0, 40), NONE);
        due.is("41", x.out(0, 0, 1, -1), FULL);
        due.is("41", x.out(0, 0, 1, 0), FULL);
        due.is("41, BAD ahead", x.out(0, 0, 1, -2), BAD);
        TreePasses y = laid("t0=cccccccca;r00c*=ccccc0x;");
        due.is("stuck behind 40", y.out(0, 0, 0, -1), -18);
        TreePasses z = laid("t0=ccccccccca;r00c*=ccccc0x;");
        due.is("long ahead of stuck", z.out(0, 0, 0, -1), FULL);
        due.is("come to with the 41st", z.visits(0, 0, 8), 1);
        due.is("not come to", z.visits(0, 0, 9), 0);
    }

    static void both() {
        TreePasses x = laid("t0=dab;m0b=1;m0d=0110;r00d*=d0y0x;r00a*=b;r00b*=ca;r10d1=c0y;r10d0=e0x0y;r10b*=a;");
        same("look by what is between", outOf(x, 0, 0, 0), "dcab");
        same("both", bothOf(x, 0), "ca");
        due.is("not so many", x.both(0, 2), NONE);
        due.is("stuck between", stuckBetween().both(0, -1), -63);
        due.is("stuck between", stuckBetween().both(0, 7), -63);
        due.is("BAD", x.both(3, 0), BAD);
        due.is("BAD", x.both(-1, 0), BAD);
        due.is("BAD", x.both(0, -2), BAD);
        due.is("first stuck", laid("t0=cca;r00c*=c0x;r10c*=a;").both(0, -1), -12);
        due.is("first long", laid("t0=cccccca;r00c*=cccccc0x;r00a*=ccccca;r10c*=a;").both(0, -1), FULL);
        due.is("second long", laid("t0=ccca;r00c*=cccccc0x;r00a*=a;r10c*=ccc0x;r10a*=a;").both(0, -1), FULL);
        TreePasses deep = laid("t0=cccccca;r00c*=cccccc0x;r00a*=ccca;r10c*=0x;");
        due.is("stuck at the last of 40", deep.both(0, -1), -99);
    }

    static TreePasses stuckBetween() {
        return laid("t0=dab;r00d*=d0x0y;r00a*=ca;r00b*=b;r10d*=d0x0y;r10c*=a;");
    }

    static void asOne() {
        TreePasses x = laid("t0=dab;r00d*=d0x1y;r00a*=cb;r10d*=c0x;r10c*=d0x0x;r10b*=a;");
        due.is("both is stuck", x.both(0, -1), -12);
        same("as one isn't", oneOf(x, 0), "cdaa");
        due.is("not so many", x.one(0, 4), NONE);
        due.is("BAD", x.one(3, 0), BAD);
        due.is("BAD", x.one(-1, 0), BAD);
        due.is("BAD", x.one(0, -2), BAD);
        entered(x, 2, "10d*=d0x0y");
        entered(x, 3, "10d*=d0x0y");
        TreePasses star = laid("t0=ca;r00c*=c0x;r00a*=a;r10c0=a;r10a*=b;");
        same("look in both", bothOf(star, 0), "a");
        due.is("just *", star.one(0, -1), -10);
        TreePasses at = laid("t0=ccb;r00c*=0x;r00b*=dab;r10d*=d0x0y;r10a*=a;");
        due.is("second stuck where the first had come", at.one(0, -1), -12);
        due.is("first stuck", laid("t0=ccb;r00c*=c0x;r10c*=0x;").one(0, 3), -12);
        due.is("long", laid("t0=ccca;r00c*=cccccc0x;r00a*=a;r10c*=ccc0x;r10a*=a;").one(0, -1), FULL);
        TreePasses deep = laid("t0=cccccccccca;r00c*=cccccc0x;r00a*=cccccca;r10c*=0x;r10a*=b;");
        due.is("long between", deep.both(0, -1), FULL);
        same("not as one", oneOf(deep, 0), "b");
        TreePasses mirrored = laid("t0=dab;p02;p13;r00d*=d0xd0ya;r00a*=a;r00b*=b;r10d*=e0x0y;r10a*=a;r10b*=b;");
        same("first mirrored", outOf(mirrored, 0, 0, 0), "dbdaa");
        same("both mirrored", bothOf(mirrored, 0), "eeaab");
        same("as one mirrored", oneOf(mirrored, 0), "eeaab");
    }

    static void linear() {
        due.is("no rules", laid("r00a*=a;").linear(1, 0), 1);
        due.is("no rules", laid("r00a*=a;").linear(1, 1), 1);
        due.is("twice", laid("r00c*=d0x1x;").linear(0, 0), 0);
        due.is("y twice", laid("r00d*=d0y1y;").linear(0, 0), 0);
        due.is("once each", laid("r00d*=d0y0x;").linear(0, 0), 1);
        due.is("whole", laid("r00d*=d0y0x;r00a*=b;").linear(0, 1), 1);
        due.is("not whole", laid("r00d*=d0y1y;").linear(0, 1), 0);
        due.is("not whole", laid("r00c*=a;").linear(0, 1), 0);
        due.is("of the other pass", laid("r00c*=a;").linear(1, 1), 1);
        due.is("of two rules", laid("r00c*=0x;r00c*=a;").linear(0, 1), 0);
        TreePasses x = fresh();
        due.is("BAD", x.linear(2, 0), BAD);
        due.is("BAD", x.linear(-1, 0), BAD);
        due.is("BAD", x.linear(0, 2), BAD);
        due.is("BAD", x.linear(0, -1), BAD);
    }

    static void visits() {
        TreePasses x = laid("t0=dcab;r00d*=d0xd0x0y;r00c*=d0x0x;r00a*=a;");
        due.is("visits", x.visits(0, 0, 0), 1);
        due.is("visits", x.visits(0, 0, 1), 2);
        due.is("visits", x.visits(0, 0, 2), 4);
        due.is("stuck counts", x.visits(0, 0, 3), 1);
        due.is("other pass", x.visits(1, 0, 0), 1);
        due.is("other pass", x.visits(1, 0, 1), 0);
        due.is("BAD", x.visits(2, 0, 0), BAD);
        due.is("BAD", x.visits(0, 3, 0), BAD);
        due.is("BAD", x.visits(0, 0, 4), BAD);
        due.is("BAD", x.visits(0, 0, -1), BAD);
    }

    static void allTrees() {
        TreePasses x = laid("m1a=1;r00a*=a;r00b*=a;r00c*=0x;r00d*=0x;r00e*=0y;");
        due.is("one profile", x.comes(0), 1);
        due.is("its number", x.least(0, 2 + 12 + 36, -1), 1);
        due.is("its letter", x.least(0, 50, 0), 0);
        due.is("not so many", x.least(0, 50, 1), NONE);
        due.is("none", x.least(0, 51, -1), NONE);
        due.is("none", x.least(0, 51, 0), NONE);
        due.is("BAD", x.least(0, 54, -1), BAD);
        due.is("BAD", x.least(0, -1, -1), BAD);
        due.is("BAD", x.least(2, 0, -1), BAD);
        due.is("BAD", x.least(0, 51, -2), BAD);
        due.is("total", x.total(0, 0, 0), 0);
        due.is("total", x.total(0, 0, 1), NONE);
        due.is("total", x.total(0, 1, 0), 1);
        due.is("total", x.total(0, 1, 1), 50);
        due.is("typed", x.typed(0, 0, 0), 0);
        due.is("typed", x.typed(0, 0, 1), NONE);
        x.flip(1, 0, 0);
        due.is("typed no more", x.typed(0, 0, 0), 1);
        due.is("typed no more", x.typed(0, 0, 1), 48);
        due.is("pass without rules", x.comes(1), 1);
        due.is("pass without rules", x.least(1, 52, -1), 1);
        due.is("BAD", x.comes(2), BAD);
        due.is("BAD", x.comes(-1), BAD);
        for (int[] bad : new int[][] {{2, 0, 0}, {-1, 0, 0}, {0, 3, 0}, {0, -1, 0}, {0, 0, 2}, {0, 0, -1}}) {
            due.is("BAD", x.total(bad[0], bad[1], bad[2]), BAD);
            due.is("BAD", x.typed(bad[0], bad[1], bad[2]), BAD);
        }
    }

    static void leastTrees() {
        TreePasses x = laid("m0b=1;m0d=0001;m1a=1;r00a*=b;r00b*=b;r00d1=d0x0y;r00d0=a;r00e0=a;");
        due.is("by b", x.least(0, 1 + 0 + 12 + 36, 0), 1);
        same("the first of several", leastOf(x, 0, 2 + 12 + 36), "daa");
        same("stuck", leastOf(x, 0, 4 + 12 + 36), "ca");
        due.is("stuck", x.total(0, 0, 0), 2);
        due.is("stuck", x.total(0, 0, 1), 52);
        due.is("type 0", x.typed(0, 0, 0), 1);
        due.is("type 0", x.typed(0, 0, 1), 48);
        TreePasses far = laid("m0a=1;m0b=1;m0c=01;m0d=0011;m0e=0100;m1a=1;m1c=11;m1d=0110;m1e=1100;"
            + "r01e0=2y;r02e1=e1y1y;r00c0=e2x1x;r00e1=a;r02d1=2x;r01d1=1y;");
        String[] more = {"02e0=e1xd2xb", "02d0=0y", "02d1=c0y", "02d0=b", "02c1=e1x1x", "02e1=b", "01d1=1x", "02d1=ea0y",
            "00c0=2x", "00e0=0x"};
        for (String body : more) {
            due.isTrue("enter " + body, entered(far, far.count(0), body) > 0);
        }
        due.is("some tree", far.comes(0), 27);
        int found = 0;
        for (int profile = 0; profile < 54; profile++) {
            found += far.least(0, profile, -1) > 0 ? 1 : 0;
        }
        due.is("of 40 nodes at most", found, 21);
        due.is("41", far.typed(0, 0, 0), 41);
        due.is("41", far.typed(0, 0, 1), NONE);
    }

    static void keepAndBack() {
        TreePasses x = fresh();
        due.is("back", x.back(), NO);
        due.is("keep", x.keep(), 1);
        x.rename(0, 1);
        x.leaf(0, 2, 1);
        x.flip(0, 0, 0);
        x.cut(0);
        due.is("keep", x.keep(), 2);
        due.is("keep", x.keep(), FULL);
        x.cut(0);
        tell(x, "abc");
        due.is("count 6", x.count(6), 5);
        due.is("back", x.back(), 1);
        due.is("rules", x.count(0), 12);
        due.is("kind", x.count(3), 1);
        due.is("undo", x.undo(), NO);
        due.is("text", x.count(8), 3);
        due.is("back", x.back(), 0);
        due.is("rules", x.count(0), 13);
        due.is("kind", x.count(3), 0);
        due.is("tree", x.tree(0, 2), 0);
        due.is("table", x.table(0, 0, 0), 0);
        due.is("comes", x.comes(0), 5);
        due.is("back", x.back(), NO);
        due.is("keep again", x.keep(), 1);
        x.cut(0);
        due.is("keep leaves what can be undone", x.count(6), 1);
    }

    static void count() {
        TreePasses x = fresh();
        int[] wants = {13, 7, 6, 0, 0, 13, 0, 0, 0};
        for (int what = 0; what < 9; what++) {
            due.is("count " + what, x.count(what), wants[what]);
        }
        due.is("count", x.count(9), BAD);
        due.is("count", x.count(-1), BAD);
        x.rename(0, 2);
        x.rename(1, 3);
        x.keep();
        x.write('t');
        due.is("count 3", x.count(3), 2);
        due.is("count 4", x.count(4), 3);
        due.is("count 6", x.count(6), 2);
        due.is("count 7", x.count(7), 1);
        due.is("count 8", x.count(8), 1);
    }

    public static void main(String[] args) {
        due = new Due("PromisesTest");
        newObject();
        writeAndWipe();
        fault();
        lay();
        treeValueTable();
        ruleAndPiece();
        enter();
        cutAndShift();
        leafFlipRename();
        undo();
        outputs();
        longOutputs();
        both();
        asOne();
        linear();
        visits();
        allTrees();
        leastTrees();
        keepAndBack();
        count();
        due.end();
    }
}
