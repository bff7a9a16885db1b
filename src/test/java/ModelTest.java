import java.util.ArrayDeque;
import java.util.ArrayList;
import java.util.Arrays;
import java.util.Deque;
import java.util.HashMap;
import java.util.List;
import java.util.Map;
import java.util.Random;
import java.util.TreeMap;
import java.util.function.Supplier;
import java.util.regex.Pattern;

/** Random programs and acts: the class against a plain model of the document, written another way. */
public final class ModelTest {
    static final int BAD = -1, NO = -2, FULL = -3, NONE = -4;
    static final String SIGNS = "abcde";

    static int kids(char f) {
        return f == 'c' ? 1 : f == 'd' || f == 'e' ? 2 : 0;
    }

    // ---- what stands

    static final class State {
        String[] trees = {"a", "a", "a"};
        int[] kinds = {0, 0};
        String[][] tables = {{"0", "0", "00", "0000", "0000"}, {"0", "0", "00", "0000", "0000"}};
        List<String> rules = new ArrayList<>();

        State copy() {
            State s = new State();
            s.trees = trees.clone();
            s.kinds = kinds.clone();
            s.tables = new String[][] {tables[0].clone(), tables[1].clone()};
            s.rules = new ArrayList<>(rules);
            return s;
        }
    }

    static final class Node {
        final char f;
        final List<Node> below = new ArrayList<>();
        int place, look, type;

        Node(char f) {
            this.f = f;
        }
    }

    static final class Stop extends RuntimeException {
        final int answer;

        Stop(int answer) {
            super(null, null, false, false);
            this.answer = answer;
        }
    }

    /** Where a row of letters and calls ends that begins at a place, or -1. */
    static int endOf(String w, int at) {
        if (at >= w.length()) {
            return -1;
        }
        if (Character.isDigit(w.charAt(at))) {
            return at + 2 <= w.length() ? at + 2 : -1;
        }
        int end = at + 1;
        for (int k = 0; k < kids(w.charAt(at)) && end >= 0; k++) {
            end = endOf(w, end);
        }
        return end;
    }

    static int pieces(String w) {
        return w.replaceAll("[0-2][xy]", "z").length();
    }

    static boolean isRuleBody(String s) {
        if (!s.matches("[01][0-2][a-e][01*]=.+")) {
            return false;
        }
        char f = s.charAt(2);
        String piece = kids(f) == 0 ? "[a-e]" : kids(f) == 1 ? "([a-e]|[0-2]x)" : "([a-e]|[0-2][xy])";
        String w = s.substring(5);
        return w.matches(piece + "{1,7}") && endOf(w, 0) == w.length();
    }

    static boolean isItem(String s) {
        if (s.matches("t[0-2]=[a-e]{1,11}")) {
            return endOf(s, 3) == s.length();
        }
        if (s.matches("p[01][0-3]")) {
            return true;
        }
        if (s.matches("m[01][a-e]=[01]*")) {
            return s.length() == 4 + (1 << kids(s.charAt(2)));
        }
        return s.startsWith("r") && isRuleBody(s.substring(1));
    }

    static int faultOf(String text) {
        int at = 0;
        int rules = 0;
        while (at < text.length()) {
            int end = text.indexOf(';', at);
            if (end < 0 || !isItem(text.substring(at, end))) {
                return at;
            }
            if (text.charAt(at) == 'r' && ++rules > 16) {
                return at;
            }
            at = end + 1;
        }
        return NONE;
    }

    static State laid(String text) {
        State s = new State();
        for (String item : text.split(Pattern.quote(";"))) {
            if (item.isEmpty()) {
                continue;
            }
            switch (item.charAt(0)) {
                case 't' -> s.trees[item.charAt(1) - '0'] = item.substring(3);
                case 'p' -> s.kinds[item.charAt(1) - '0'] = item.charAt(2) - '0';
                case 'm' -> s.tables[item.charAt(1) - '0'][item.charAt(2) - 'a'] = item.substring(4);
                default -> s.rules.add(item.substring(1));
            }
        }
        return s;
    }

    /** The place of the first letter behind which no rule can come any more, by trying all that could. */
    static int stopOf(String body) {
        if (isRuleBody(body)) {
            return NONE;
        }
        for (int n = 1; n <= body.length(); n++) {
            if (!canGoOn(body.substring(0, n))) {
                return n - 1;
            }
        }
        return body.length();
    }

    static boolean canGoOn(String start) {
        String frame = "00a*=";
        if (start.length() <= 5) {
            return isRuleBody(start + (start.length() < 5 ? frame.substring(start.length()) : "") + "a");
        }
        String[] next = {"", "x", "y"};
        for (String s : next) {
            String w = start + s;
            for (int leaves = 0; leaves <= 7; leaves++) {
                if (isRuleBody(w + "a".repeat(leaves))) {
                    return true;
                }
            }
        }
        return false;
    }

    // ---- what comes

    static Node treeOf(State s, String row, int[] at) {
        int place = at[0]++;
        Node v = new Node(row.charAt(place));
        v.place = place;
        for (int k = 0; k < kids(v.f); k++) {
            v.below.add(treeOf(s, row, at));
        }
        v.look = valueOf(s, 0, v);
        v.type = valueOf(s, 1, v);
        return v;
    }

    static Node treeOf(State s, String row) {
        return treeOf(s, row, new int[1]);
    }

    static int valueOf(State s, int m, Node v) {
        String bits = "";
        for (Node kid : v.below) {
            bits += m == 0 ? kid.look : kid.type;
        }
        return s.tables[m][v.f - 'a'].charAt(bits.isEmpty() ? 0 : Integer.parseInt(bits, 2)) - '0';
    }

    static String ruleFor(State s, int p, int q, char f, String sights) {
        List<String> fit = new ArrayList<>();
        for (String r : s.rules) {
            if (r.startsWith("" + p + q + f) && sights.indexOf(r.charAt(3)) >= 0) {
                fit.add(r.substring(5));
            }
        }
        return fit.isEmpty() ? null : fit.get(s.kinds[p] % 2 == 0 ? 0 : fit.size() - 1);
    }

    static int childOf(State s, int p, char f, char sign) {
        int child = sign - 'x';
        return s.kinds[p] >= 2 && kids(f) == 2 ? 1 - child : child;
    }

    static void output(State s, int p, int q, Node v, StringBuilder made, Map<Integer, Integer> visits) {
        visits.merge(v.place, 1, Integer::sum);
        String w = ruleFor(s, p, q, v.f, "*" + v.look);
        if (w == null) {
            throw new Stop(-10 - v.place);
        }
        for (int i = 0; i < w.length(); i++) {
            char sign = w.charAt(i);
            if (Character.isDigit(sign)) {
                output(s, p, sign - '0', v.below.get(childOf(s, p, v.f, w.charAt(++i))), made, visits);
            } else if (made.length() == 40) {
                throw new Stop(FULL);
            } else {
                made.append(sign);
            }
        }
    }

    static Object outputOf(State s, int p, int q, Node v, Map<Integer, Integer> visits) {
        StringBuilder made = new StringBuilder();
        try {
            output(s, p, q, v, made, visits);
        } catch (Stop stop) {
            return stop.answer;
        }
        return made.toString();
    }

    static Object both(State s, String row) {
        Object first = outputOf(s, 0, 0, treeOf(s, row), new HashMap<>());
        if (first instanceof Integer) {
            return first;
        }
        Object second = outputOf(s, 1, 0, treeOf(s, (String) first), new HashMap<>());
        return second instanceof Integer n && n <= -10 ? (Object) (n - 50) : second;
    }

    /** A node of what pass 0 would make, whose children are made when they are asked for. */
    static final class Lazy {
        char f;
        int from;
        List<Supplier<Lazy>> below = new ArrayList<>();
    }

    static Lazy lazyCall(State s, int q, Node v) {
        String w = ruleFor(s, 0, q, v.f, "*" + v.look);
        if (w == null) {
            throw new Stop(-10 - v.place);
        }
        return lazyPiece(s, w, 0, v);
    }

    static Lazy lazyPiece(State s, String w, int at, Node v) {
        char sign = w.charAt(at);
        if (Character.isDigit(sign)) {
            return lazyCall(s, sign - '0', v.below.get(childOf(s, 0, v.f, w.charAt(at + 1))));
        }
        Lazy lazy = new Lazy();
        lazy.f = sign;
        lazy.from = v.place;
        int next = at + 1;
        for (int k = 0; k < kids(sign); k++) {
            int start = next;
            lazy.below.add(() -> lazyPiece(s, w, start, v));
            next = endOf(w, next);
        }
        return lazy;
    }

    static void fused(State s, int q, Lazy v, StringBuilder made) {
        String w = ruleFor(s, 1, q, v.f, "*");
        if (w == null) {
            throw new Stop(-10 - v.from);
        }
        for (int i = 0; i < w.length(); i++) {
            char sign = w.charAt(i);
            if (Character.isDigit(sign)) {
                fused(s, sign - '0', v.below.get(childOf(s, 1, v.f, w.charAt(++i))).get(), made);
            } else if (made.length() == 40) {
                throw new Stop(FULL);
            } else {
                made.append(sign);
            }
        }
    }

    static Object asOne(State s, String row) {
        StringBuilder made = new StringBuilder();
        try {
            fused(s, 0, lazyCall(s, 0, treeOf(s, row)), made);
        } catch (Stop stop) {
            return stop.answer;
        }
        return made.toString();
    }

    static int linear(State s, int p, int what) {
        for (String r : s.rules) {
            String w = r.substring(5);
            int x = w.replaceAll("[^x]", "").length();
            int y = w.replaceAll("[^y]", "").length();
            int n = kids(r.charAt(2));
            boolean so = what == 0 ? x < 2 && y < 2 : (n < 1 || x > 0) && (n < 2 || y > 0);
            if (r.charAt(0) - '0' == p && !so) {
                return 0;
            }
        }
        return 1;
    }

    // ---- all trees

    /** For each profile the least tree of 40 nodes at most; "" where each is larger. */
    static Map<Integer, String> census(State s, int p) {
        TreeMap<Integer, String> best = new TreeMap<>();
        Map<String, Integer> steps = new HashMap<>();
        for (int n = 1; n <= 40; n++) {
            Map<Integer, String> found = new HashMap<>();
            for (char f : SIGNS.toCharArray()) {
                List<Map.Entry<Integer, String>> has = new ArrayList<>(best.entrySet());
                if (kids(f) == 0 && n == 1) {
                    better(found, profile(s, p, f, new int[0], steps), "" + f);
                }
                for (Map.Entry<Integer, String> a : has) {
                    if (kids(f) == 1 && a.getValue().length() == n - 1) {
                        better(found, profile(s, p, f, new int[] {a.getKey()}, steps), f + a.getValue());
                    }
                    for (Map.Entry<Integer, String> b : has) {
                        if (kids(f) == 2 && a.getValue().length() + b.getValue().length() == n - 1) {
                            better(found, profile(s, p, f, new int[] {a.getKey(), b.getKey()}, steps),
                                f + a.getValue() + b.getValue());
                        }
                    }
                }
            }
            found.forEach(best::putIfAbsent);
        }
        for (boolean more = true; more;) {
            more = false;
            for (int a : best.keySet().toArray(new Integer[0])) {
                more |= best.putIfAbsent(profile(s, p, 'c', new int[] {a}, steps), "") == null;
                for (int b : best.keySet().toArray(new Integer[0])) {
                    more |= best.putIfAbsent(profile(s, p, 'd', new int[] {a, b}, steps), "") == null;
                    more |= best.putIfAbsent(profile(s, p, 'e', new int[] {a, b}, steps), "") == null;
                }
            }
        }
        return best;
    }

    static void better(Map<Integer, String> found, int profile, String tree) {
        found.merge(profile, tree, (x, y) -> x.compareTo(y) <= 0 ? x : y);
    }

    static int profile(State s, int p, char f, int[] below, Map<String, Integer> steps) {
        String key = f + Arrays.toString(below);
        Integer known = steps.get(key);
        if (known != null) {
            return known;
        }
        String bits = "";
        for (int b : below) {
            bits += b % 2;
        }
        int look = s.tables[0][f - 'a'].charAt(bits.isEmpty() ? 0 : Integer.parseInt(bits, 2)) - '0';
        int profile = look;
        for (int q = 0, weight = 2; q < 3; q++, weight *= 3) {
            String w = ruleFor(s, p, q, f, "*" + look);
            profile += weight * (w == null ? 2 : typeOf(s, p, f, w, new int[1], below));
        }
        steps.put(key, profile);
        return profile;
    }

    static int typeOf(State s, int p, char f, String w, int[] at, int[] below) {
        char sign = w.charAt(at[0]++);
        if (Character.isDigit(sign)) {
            int of = below[childOf(s, p, f, w.charAt(at[0]++))] / 2;
            for (int q = 0; q < sign - '0'; q++) {
                of /= 3;
            }
            return of % 3;
        }
        int k = 0;
        boolean stuck = false;
        for (int n = 0; n < kids(sign); n++) {
            int type = typeOf(s, p, f, w, at, below);
            stuck |= type == 2;
            k = 2 * k + type;
        }
        return stuck ? 2 : s.tables[1][sign - 'a'].charAt(k) - '0';
    }

    /** The profile of a tree by making its outputs whole, however long: for small trees. */
    static int profileByOutput(State s, int p, String row) {
        Node v = treeOf(s, row);
        int profile = v.look;
        for (int q = 0, weight = 2; q < 3; q++, weight *= 3) {
            StringBuilder made = new StringBuilder();
            boolean done = wholeOutput(s, p, q, v, made);
            profile += weight * (done ? treeOf(s, made.toString()).type : 2);
        }
        return profile;
    }

    static boolean wholeOutput(State s, int p, int q, Node v, StringBuilder made) {
        String w = ruleFor(s, p, q, v.f, "*" + v.look);
        boolean done = w != null;
        for (int i = 0; done && i < w.length(); i++) {
            char sign = w.charAt(i);
            if (Character.isDigit(sign)) {
                done = wholeOutput(s, p, sign - '0', v.below.get(childOf(s, p, v.f, w.charAt(++i))), made);
            } else {
                made.append(sign);
            }
        }
        return done;
    }

    static List<List<String>> treesBySize(int most) {
        List<List<String>> all = new ArrayList<>();
        all.add(new ArrayList<>());
        for (int n = 1; n <= most; n++) {
            List<String> now = new ArrayList<>();
            if (n == 1) {
                now.add("a");
                now.add("b");
            }
            for (String t : all.get(n - 1)) {
                now.add("c" + t);
            }
            for (int k = 1; k < n - 1; k++) {
                for (String x : all.get(k)) {
                    for (String y : all.get(n - 1 - k)) {
                        now.add("d" + x + y);
                        now.add("e" + x + y);
                    }
                }
            }
            now.sort(null);
            all.add(now);
        }
        return all;
    }

    // ---- random programs

    static final Random random = new Random(20261118);

    static int below(int n) {
        return random.nextInt(n);
    }

    static String randomTree(int most) {
        while (true) {
            StringBuilder row = new StringBuilder();
            int due = 1;
            while (due > 0 && row.length() + due <= most) {
                char f = SIGNS.charAt(below(5));
                if (row.length() + due + kids(f) > most) {
                    f = SIGNS.charAt(below(2));
                }
                row.append(f);
                due += kids(f) - 1;
            }
            if (due == 0 && (row.length() > 1 || below(6) == 0)) {
                return row.toString();
            }
        }
    }

    static String randomBody(char f, int most) {
        StringBuilder row = new StringBuilder();
        int due = 1;
        int n = 0;
        while (due > 0) {
            char g = SIGNS.charAt(below(5));
            boolean call = kids(f) > 0 && below(5) < 2;
            if (!call && n + due + kids(g) > most) {
                call = kids(f) > 0;
                g = SIGNS.charAt(below(2));
            }
            if (call) {
                row.append(below(4) == 0 ? 2 : below(2)).append(kids(f) == 2 && below(2) == 0 ? 'y' : 'x');
                due--;
            } else {
                row.append(g);
                due += kids(g) - 1;
            }
            n++;
        }
        return row.toString();
    }

    static String randomRule(int passes) {
        char f = SIGNS.charAt(below(5));
        int q = below(6) == 0 ? 2 : below(3) == 0 ? 1 : 0;
        char sight = "01****".charAt(below(6));
        return "" + below(passes) + q + f + sight + "=" + randomBody(f, below(3) == 0 ? 7 : 4);
    }

    static String bits(int n) {
        StringBuilder s = new StringBuilder();
        for (int i = 0; i < n; i++) {
            s.append(below(2));
        }
        return s.toString();
    }

    static String randomText() {
        StringBuilder text = new StringBuilder();
        int passes = 1 + below(2);
        for (int t = 0; t < 3; t++) {
            text.append("t").append(t).append("=").append(randomTree(11)).append(";");
        }
        for (int n = 0; n < 5; n++) {
            char f = SIGNS.charAt(below(5));
            text.append("m").append(below(2)).append(f).append("=").append(bits(1 << kids(f))).append(";");
        }
        text.append(below(2) == 0 ? "p0" + below(4) + ";" : "").append(below(2) == 0 ? "p1" + below(4) + ";" : "");
        for (int n = 0; n < 16; n++) {
            String item = "r" + randomRule(passes) + ";";
            if (text.length() + item.length() <= 200) {
                text.append(item);
            }
        }
        return text.toString();
    }

    static String spoilt(String text) {
        String signs = "abcdexytpmr0123456=*; ";
        StringBuilder s = new StringBuilder(text);
        for (int n = 1 + below(2); n > 0 && s.length() > 0; n--) {
            int at = below(s.length());
            char sign = signs.charAt(below(signs.length()));
            switch (below(4)) {
                case 0 -> s.setCharAt(at, sign);
                case 1 -> s.deleteCharAt(at);
                case 2 -> s.insert(at, sign);
                default -> s.setLength(at);
            }
        }
        if (s.length() > 200) {
            s.setLength(200);
        }
        return s.toString();
    }

    /** Programs found by climbing: least trees of 40 nodes, of more, states that are stuck late. */
    static final String[] FAR = {
        "m0a=1;m0b=1;m0c=01;m0d=0011;m0e=0100;m1a=1;m1c=11;m1d=0110;m1e=1100;r01e0=2y;r02e1=e1y1y;r00c0=e2x1x;r00e1=a;r02d1=2x;r01d1=1y;r02e0=e1xd2xb;r02d0=0y;r02d1=c0y;r02d0=b;r02c1=e1x1x;r02e1=b;r01d1=1x;r02d1=ea0y;r00c0=2x;r00e0=0x;",
        "m0a=1;m0b=1;m0c=10;m0d=1101;m0e=1011;m1b=1;m1c=01;m1d=1111;m1e=1110;r02e0=1y;r01d0=a;r00d1=0x;r01d0=a;r00c0=d2x1x;r02e*=e2y2y;r01e*=1x;r01d1=0x;r00d0=eee0x0x1y2y;r02d1=2x;r00c1=0x;r02d1=dbd2y2x;r01d0=1x;r00e1=d0x0x;r02e*=0x;r02e0=e0x1x;",
        "m0d=0100;m0e=1111;m1a=1;m1d=0111;m1e=1010;r01e*=1x;r00c*=2x;r00c*=1x;r01d1=0x;r01d0=e1y1x;r01e0=a;r00d0=d0ycb;r00d*=b;r00e1=0y;r01b1=b;r02d1=d1xb;r01c1=b;r01e1=cc0y;r01e0=ebc0x;r02e0=a;r02c1=2x;",
        "m0a=1;m0b=1;m0c=01;m0d=0111;m0e=1000;m1a=1;m1b=1;m1c=01;m1d=1111;m1e=1110;r01c0=e0x0x;r00e0=ee2x0xa;r02e1=0y;r00d*=2y;r01d1=2x;r01c0=a;r00e1=1y;r01c1=2x;r01e1=a;r01e0=0y;r01c*=a;r00b0=b;r02e*=cd1xa;r01d0=0x;r01c*=ca;r01e*=a;",
        "m0d=1010;m0e=1101;m1a=1;m1b=1;m1c=10;m1d=0010;m1e=0110;r01e*=ddb2y2x;r00e1=d1yce2xa;r01e0=1x;r00c1=0x;r02c1=d1x1x;r00c0=c0x;r00e*=a;r01d*=0y;r00d*=1y;r02d0=1y;r02c1=1x;r02d*=1y;r01d*=2y;r00e1=2y;r01e*=2x;",
        "m0a=1;m0b=1;m0c=01;m0d=1110;m0e=0111;m1c=11;m1d=1101;m1e=1000;r02e0=2y;r00d0=dc0y2y;r00e1=2y;r01e*=a;r00e0=1x;r00c0=2x;r02d*=0x;r02e1=0y;r01d1=2y;r01e1=cc0y;r01c0=e1x0x;r02e*=a;r02e1=1y;r02d*=d1x2y;r01c0=1x;r01c1=0x;",
        "m0a=1;m0b=1;m0c=01;m0d=1000;m0e=1001;m1a=1;m1c=01;m1d=1101;m1e=1100;r02e*=2y;r00e0=0y;r02d0=eb0x;r01e0=ed0yc1yb;r01e1=2y;r01d*=2y;r02d0=2y;r00d1=cc1x;r01c0=a;r02d1=ddc2yba;r02e*=a;r02e0=cc0x;r02c*=0x;r01d0=2y;r00a0=ca;r02d*=0y;",
        "m0a=1;m0b=1;m0c=11;m0d=1000;m0e=1001;m1c=11;m1d=1100;r01b0=eeaebab;r02e1=0y;r02d*=a;r02c0=0x;r01d1=a;r00d*=0y;r02c0=cc1x;r01d*=dae1y0y;r00b0=b;r00c0=0x;r02e1=e0yc1x;r00e1=1x;r02e*=1x;r00b0=ebeacb;r01d*=0y;r00d1=1x;",
        "m0a=1;m0b=1;m0c=01;m0d=1000;m0e=0110;m1c=11;m1d=0110;m1e=1001;r02a1=a;r01d0=0x;r02d0=b;r00c*=d2x1x;r01d1=ea1x;r00d0=da2y;r02d*=d1y0x;r00d1=1y;r01d*=1y;r02e1=1y;r00d1=b;r00e0=d0xa;r00c*=d0xd2x1x;r02d0=1x;r01b0=eaa;r00e1=2x;",
        "m0a=1;m0b=1;m0c=11;m0d=1111;m0e=1001;m1c=01;m1d=1100;m1e=0100;r00e0=d0y1x;r00c*=eb0x;r02e*=0y;r00d1=1x;r01d1=ddc2yba;r00c1=b;r02c1=1x;r00c*=2x;r02c0=2x;r01c0=dd1xd1x0x2x;r02e*=a;r02e*=b;r01e1=2x;r02d1=a;r01a0=a;r00e1=dee0x2y1y1x;",
        "m0a=1;m0b=1;m0c=01;m0d=1000;m0e=0101;m1b=1;m1c=01;m1d=0100;m1e=0100;r01e0=b;r01d0=2y;r01c1=2x;r00e0=1x;r01b0=eaa;r02d*=0y;r00e0=1y;r01e*=c1x;r01e0=0x;r02c*=0x;r00d*=0x;r02d*=2y;r00a0=b;r00c1=2x;r01d1=e2ya;r02c0=a;",
        "m0c=01;m0d=1001;m1a=1;m1d=0010;m1e=0100;r00e*=2x;r00c*=a;r02e*=0y;r01e0=1x;r01d1=2x;r00b1=a;r01c0=1x;r00d1=0x;r02c0=2x;r02c0=1x;r02e1=c2x;r00d1=a;r02c1=2x;r02d1=ddc1x1x2y;r02b1=eebab;r01d1=1y;",
        "m0a=1;m0b=1;m0c=11;m0d=1000;m0e=0111;m1a=1;m1b=1;m1c=11;m1d=1011;m1e=1110;r02e*=a;r00e*=e2y1x;r02c*=b;r02d0=2y;r00a*=a;r02d1=0y;r01b1=b;r02b*=a;r00d0=2x;r01e*=c0x;r01d*=1y;r01a*=b;r02a1=cdab;r01c1=2x;r00b1=edbaa;r00c1=2x;",
        "m0a=1;m0b=1;m0c=11;m0d=0111;m0e=1000;m1a=1;m1b=1;m1c=01;m1e=1000;r00d*=1y;r02b1=eadcab;r01a*=b;r01e*=db1x;r00e0=ee2xbdb2x;r01c*=ecb1x;r00a1=b;r01d0=2x;r01d*=a;r02d*=0y;r00b*=cb;r01b*=dacb;r00c*=0x;r02c1=2x;r02a1=dbca;r02e*=b;",
        "m0d=0010;m0e=1110;m1a=1;m1b=1;m1c=01;m1d=1000;m1e=1101;r00e*=d1y0y;r01e*=a;r00b*=cebcb;r01d0=1x;r00a*=a;r01c*=1x;r02a0=eba;r02d0=c2x;r00c*=b;r00d0=1y;r01b*=b;r01d*=d1x0y;r01a*=a;r00d*=c2y;r02b*=a;r02c*=a;",
        "m0d=0001;m0e=1110;m1b=1;m1c=10;m1e=0010;r02e0=0x;r01d*=2y;r02a*=dbb;r02e1=2x;r02c0=2x;r01b*=a;r01e1=cea0x;r02b0=daa;r00e*=d2yb;r00d*=1x;r01c0=b;r00a0=eebab;r02d*=2x;r00b0=dadebba;r01a*=dba;r00c*=dcba;",
        "m0a=1;m0b=1;m0c=11;m0d=0010;m0e=0011;m1b=1;m1c=01;m1d=1001;m1e=1110;r02e0=c0x;r00d1=2x;r02d0=ec0x2x;r02c*=c2x;r01c*=1x;r01d1=b;r00e0=0y;r01c0=1x;r01e0=0x;r00d1=b;r02c0=0x;r02e1=1y;r00d1=a;r00c0=0x;r00e0=0y;",
        "m0c=01;m0d=1101;m0e=0001;m1b=1;m1c=11;m1d=1000;m1e=0110;r00c0=ec1x2x;r02e1=1x;r00c*=2x;r01d0=0y;r02a*=cb;r00d0=0x;r00b1=a;r02b1=a;r01e*=b;r02d0=1y;r02e1=cdd2yb0x;r00c0=a;r00c1=1x;r01d0=c2y;r00c0=a;r01e*=1y;",
        "m0a=1;m0b=1;m0c=01;m0d=0100;m0e=0010;m1a=1;m1b=1;m1c=10;m1d=0110;m1e=1111;r01d*=2x;r00d*=1y;r02c0=dd0x1xb;r01c0=b;r02d1=e0y1y;r01e1=de0xa1x;r01e*=dca0x;r00e0=0y;r00e1=dce2y2x0y;r01b0=ca;r02c1=0x;r00e1=1x;r01e1=a;r02d1=1y;r01d1=0x;r00e1=a;",
        "m0a=1;m0b=1;m0c=11;m0d=1011;m0e=1100;m1b=1;m1c=11;m1d=1110;m1e=0111;r02d1=0y;r02d*=dbee2x0y0y;r00d1=1x;r01d0=1y;r00d*=b;r01d1=dd1x2x0y;r02e*=e1yb;r02c1=0x;r02e*=0x;r00d0=0x;r01c0=1x;r01e1=c1x;r02d0=0x;r01e*=2x;r02c0=a;r01e0=c2x;",
        "m0c=01;m0d=0001;m0e=1111;m1a=1;m1d=1011;m1e=1010;r02d*=1y;r01e0=c0x;r00d1=da2y;r00d*=d2y0x;r01c*=d0x0x;r01d1=a;r00e*=0y;r01e1=1y;r00c0=0x;r02c0=ce2x0x;r01d1=0x;r02a*=ebb;r01e0=a;r02d1=0x;r00e*=0y;r02c*=1x;",
        "m0d=0100;m0e=1110;m1a=1;m1b=1;m1c=11;m1d=0100;m1e=0101;r01d*=c2x;r00d*=ee0yc2xa;r01e*=ee2ye1yb0x;r02e*=1x;r02e0=a;r00c0=d1xd1x0x;r00e0=1x;r00c*=1x;r01e0=b;r02d0=1x;r01c0=c1x;r00e1=0x;r01e0=d0y0x;r02d1=a;r02d0=0x;r01e*=0x;",
        "m0c=11;m0d=0001;m0e=0001;m1b=1;m1c=10;m1d=0110;m1e=1110;r02d0=0x;r00d0=b;r02d*=e0x2y;r00d1=2y;r01e0=1y;r00e1=1x;r01c0=0x;r02e*=ce0x0x;r01c*=1x;r00d*=0x;r00d*=a;r02c0=1x;r01e0=b;r02e1=d1y0y;r01d*=d2yd2x2y;r02e1=0x;",
        "m0c=01;m0d=1100;m0e=0001;m1d=1001;m1e=0100;r00e1=a;r01d1=1y;r02d0=0y;r01d*=d2x2y;r00c0=c0x;r02c0=da0x;r02c0=1x;r02e1=0y;r00d1=2y;r00d1=eab;r01e1=1y;r02c0=b;r02d1=d2x1x;r02d1=1x;r00d0=c1y;r02c1=d1x2x;",
        "m0c=01;m0d=1100;m0e=0001;m1d=1001;r00e1=a;r01d*=d2x2y;r00c0=c0x;r02c0=da0x;r02e1=0y;r00e*=1y;",
        "m0c=01;m0d=1100;m0e=0001;m1d=1001;r00e1=a;r01d*=d2x2y;r02c0=da0x;r02e1=0y;r00d0=c1y;",
        "m0d=0100;m0e=1111;m1d=0111;m1e=1010;r01e*=1x;r00e*=b;r01d1=0x;r01d0=e1y1x;r00d0=d0ycb;r02d1=d1xb;",
        "m0d=1110;m0e=0001;m1d=1001;r00e1=a;r01d1=1y;r01d*=d2x2y;r02c0=1x;r02e1=0y;r00d1=2y;",
        "m0c=01;m0d=1100;m0e=0011;m1d=1001;r00e1=a;r02d0=0y;r01d*=d2x2y;r00c0=c0x;r02c0=da0x;r02e1=0y;r00d1=2y;r00d0=c1y;",
        "m0c=01;m0d=1110;m0e=0001;m1d=1001;r00e1=a;r02d0=0y;r01d*=d2x2y;r02c0=da0x;r00d1=2y;r00d0=c1y;",
        "m0d=1110;m0e=1011;r01c0=b;r00a*=b;r01e*=a;r01d*=0x;r02e1=b;r00d1=a;r01b*=a;r02d*=a;r02b0=a;r02a0=b;r02c0=a;r00b0=b;r00e*=d1ya;r01a*=a;r02e*=1x;r00c*=b;"
    };

    // ---- the class beside the model

    static final Due due = new Due("ModelTest");

    TreePasses x = new TreePasses();
    State s = laid("t0=dcab;t1=ccb;t2=edabca;m0b=1;m0c=01;m0d=0110;m1a=1;m1d=0001;r00a*=b;r00b*=ca;r00c*=d0x1x;"
        + "r00d0=e1y0x;r00d1=c0x;r01a*=a;r01c*=1x;r10a*=a;r10b*=cb;r10c*=0x;r10d*=d1x0y;r11a*=b;r11b*=a;");
    String text = "";
    Deque<State> past = new ArrayDeque<>();
    Deque<State> kept = new ArrayDeque<>();

    String where() {
        return " of " + Arrays.toString(s.trees) + Arrays.toString(s.kinds) + Arrays.deepToString(s.tables) + s.rules
            + " text " + text + " ";
    }

    void check(String call, int got, int want) {
        due.is(got == want ? call : call + where(), got, want);
    }

    void write(String row) {
        check("wipe", x.wipe(), text.length());
        text = "";
        for (char sign : row.toCharArray()) {
            text += sign;
            check("write", x.write(sign), text.length());
        }
    }

    void remember() {
        past.push(s.copy());
        if (past.size() > 8) {
            past.removeLast();
        }
    }

    void layRandom() {
        write(below(4) == 0 ? spoilt(randomText()) : randomText());
        int fault = faultOf(text);
        check("fault", x.fault(), fault);
        State next = fault == NONE ? laid(text) : null;
        boolean so = next != null && !next.rules.isEmpty();
        check("lay", x.lay(), so ? next.rules.size() : NO);
        if (so) {
            s = next;
            past.clear();
            kept.clear();
        }
    }

    /** The rules that the text has no room for are entered. */
    void layFar(String items) {
        int end = items.lastIndexOf(';', 199) + 1;
        write(items.substring(0, end));
        s = laid(text);
        past.clear();
        kept.clear();
        check("lay", x.lay(), s.rules.size());
        for (String item : items.substring(end).split(";")) {
            if (!item.isEmpty()) {
                write(item.substring(1));
                remember();
                s.rules.add(text);
                check("enter", x.enter(s.rules.size() - 1), s.rules.size());
            }
        }
    }

    void enterRandom() {
        String body = randomRule(2);
        write(below(3) == 0 ? spoilt(body) : body);
        int r = below(20) - 1;
        int size = s.rules.size();
        int stop = stopOf(text);
        int want = r < 0 || r > size ? BAD : r == 16 ? FULL : stop != NONE ? -10 - stop : Math.max(size, r + 1);
        if (want >= 0) {
            remember();
            if (r < size) {
                s.rules.set(r, text);
            } else {
                s.rules.add(text);
            }
        }
        check("enter " + r, x.enter(r), want);
    }

    void cutOrShift() {
        int size = s.rules.size();
        int r = below(size + 2) - 1;
        int to = below(size + 2) - 1;
        boolean has = r >= 0 && r < size;
        if (below(3) == 0) {
            if (has) {
                remember();
                s.rules.remove(r);
            }
            check("cut " + r, x.cut(r), has ? size - 1 : BAD);
            return;
        }
        int want = !has || to < 0 || to >= size ? BAD : r == to ? NO : Math.abs(r - to);
        if (want >= 0) {
            remember();
            s.rules.add(to, s.rules.remove(r));
        }
        check("shift " + r + " " + to, x.shift(r, to), want);
    }

    void leafRandom() {
        int t = below(5) - 1;
        int v = below(13) - 1;
        int f = below(7) - 1;
        boolean has = t >= 0 && t < 3 && v >= 0 && v < s.trees[t].length() && f >= 0 && f < 5
            && kids(SIGNS.charAt(f)) == kids(s.trees[t].charAt(v));
        int want = BAD;
        if (has) {
            int was = s.trees[t].charAt(v) - 'a';
            want = was == f ? NO : was;
            if (was != f) {
                remember();
                s.trees[t] = s.trees[t].substring(0, v) + SIGNS.charAt(f) + s.trees[t].substring(v + 1);
            }
        }
        check("leaf " + t + " " + v + " " + f, x.leaf(t, v, f), want);
    }

    void flipOrRename() {
        int m = below(4) - 1;
        int f = below(7) - 1;
        int k = below(6) - 1;
        boolean hasM = m >= 0 && m < 2;
        if (below(3) == 0) {
            int want = !hasM || k < 0 || k > 3 ? BAD : s.kinds[m] == k ? NO : s.kinds[m];
            if (want >= 0) {
                remember();
                s.kinds[m] = k;
            }
            check("rename " + m + " " + k, x.rename(m, k), want);
            return;
        }
        boolean has = hasM && f >= 0 && f < 5 && k >= 0 && k < s.tables[m][f].length();
        int want = BAD;
        if (has) {
            remember();
            StringBuilder row = new StringBuilder(s.tables[m][f]);
            want = '1' - row.charAt(k);
            row.setCharAt(k, (char) ('0' + want));
            s.tables[m][f] = row.toString();
        }
        check("flip " + m + " " + f + " " + k, x.flip(m, f, k), want);
    }

    void undoKeepBack() {
        switch (below(4)) {
            case 0, 1 -> {
                int want = past.isEmpty() ? NO : past.size() - 1;
                s = past.isEmpty() ? s : past.pop();
                check("undo", x.undo(), want);
            }
            case 2 -> {
                int want = kept.size() == 2 ? FULL : kept.size() + 1;
                if (want > 0) {
                    kept.push(s.copy());
                }
                check("keep", x.keep(), want);
            }
            default -> {
                int want = kept.isEmpty() ? NO : kept.size() - 1;
                if (want >= 0) {
                    s = kept.pop();
                    past.clear();
                }
                check("back", x.back(), want);
            }
        }
    }

    int at(Object output, int i) {
        if (output instanceof Integer n) {
            return n;
        }
        String row = (String) output;
        return i == -1 ? row.length() : i < row.length() ? row.charAt(i) - 'a' : NONE;
    }

    void askProgram() {
        for (int t = 0; t < 3; t++) {
            Node root = treeOf(s, s.trees[t]);
            Deque<Node> open = new ArrayDeque<>(List.of(root));
            while (!open.isEmpty()) {
                Node v = open.pop();
                check("tree " + t + " " + v.place, x.tree(t, v.place), v.f - 'a');
                check("value 0 " + t + " " + v.place, x.value(0, t, v.place), v.look);
                check("value 1 " + t + " " + v.place, x.value(1, t, v.place), v.type);
                v.below.forEach(open::push);
            }
            check("tree " + t, x.tree(t, -1), s.trees[t].length());
            check("tree over", x.tree(t, s.trees[t].length()), NONE);
            check("value over", x.value(0, t, s.trees[t].length()), BAD);
        }
        for (int m = 0; m < 2; m++) {
            for (int f = 0; f < 5; f++) {
                for (int k = -1; k < 5; k++) {
                    String row = s.tables[m][f];
                    check("table", x.table(m, f, k), k >= 0 && k < row.length() ? row.charAt(k) - '0' : BAD);
                }
            }
        }
        for (int r = 0; r < s.rules.size(); r++) {
            askRule(r, s.rules.get(r));
        }
        int ofZero = (int) s.rules.stream().filter(r -> r.charAt(0) == '0').count();
        int[] counts = {s.rules.size(), ofZero, s.rules.size() - ofZero, s.kinds[0], s.kinds[1],
            s.trees[0].length() + s.trees[1].length() + s.trees[2].length(), past.size(), kept.size(), text.length()};
        for (int what = -1; what < 10; what++) {
            check("count " + what, x.count(what), what >= 0 && what < 9 ? counts[what] : BAD);
        }
    }

    void askRule(int r, String body) {
        int sight = body.charAt(3) == '*' ? 2 : body.charAt(3) - '0';
        String w = body.substring(5);
        int[] wants = {body.charAt(0) - '0', body.charAt(1) - '0', body.charAt(2) - 'a', sight, pieces(w)};
        for (int what = 0; what < 5; what++) {
            check("rule " + r + " " + what, x.rule(r, what), wants[what]);
        }
        int i = 0;
        for (int at = 0; at < w.length(); at++, i++) {
            int want = w.charAt(at) - 'a';
            if (Character.isDigit(w.charAt(at))) {
                want = 10 + 2 * (w.charAt(at) - '0') + (w.charAt(++at) - 'x');
            }
            check("piece " + r + " " + i, x.piece(r, i), want);
        }
        check("piece over", x.piece(r, i), NONE);
    }

    void askOutputs() {
        for (int t = 0; t < 3; t++) {
            String row = s.trees[t];
            for (int p = 0; p < 2; p++) {
                for (int q = 0; q < 3; q++) {
                    Object output = outputOf(s, p, q, treeOf(s, row), new HashMap<>());
                    for (int i = -1; i < 42; i++) {
                        check("out " + p + q + t + " " + i, x.out(p, q, t, i), at(output, i));
                    }
                }
                Map<Integer, Integer> visits = new HashMap<>();
                outputOf(s, p, 0, treeOf(s, row), visits);
                for (int v = 0; v < row.length(); v++) {
                    check("visits " + p + t + " " + v, x.visits(p, t, v), visits.getOrDefault(v, 0));
                }
            }
            Object both = both(s, row);
            Object one = asOne(s, row);
            for (int i = -1; i < 42; i++) {
                check("both " + t + " " + i, x.both(t, i), at(both, i));
                check("one " + t + " " + i, x.one(t, i), at(one, i));
            }
        }
        for (int p = 0; p < 2; p++) {
            check("linear " + p, x.linear(p, 0), linear(s, p, 0));
            check("whole " + p, x.linear(p, 1), linear(s, p, 1));
        }
    }

    static int large;

    void askCensus(int p) {
        Map<Integer, String> census = census(s, p);
        check("comes " + p, x.comes(p), census.size());
        for (int profile = 0; profile < 54; profile++) {
            String least = census.getOrDefault(profile, "");
            large = Math.max(large, census.containsKey(profile) && least.isEmpty() ? 41 : least.length());
            for (int i = -1; i <= least.length(); i++) {
                int want = least.isEmpty() || i == least.length() ? NONE : i < 0 ? least.length() : least.charAt(i) - 'a';
                check("least " + p + " " + profile + " " + i, x.least(p, profile, i), want);
            }
        }
        for (int q = 0; q < 3; q++) {
            askFirst(census, p, q, 2);
            askFirst(census, p, q, 0);
        }
    }

    void askFirst(Map<Integer, String> census, int p, int q, int type) {
        int divisor = q == 0 ? 2 : q == 1 ? 6 : 18;
        String best = null;
        int of = NONE;
        boolean some = false;
        for (Map.Entry<Integer, String> e : census.entrySet()) {
            if (e.getKey() / divisor % 3 != type) {
                continue;
            }
            some = true;
            String tree = e.getValue();
            if (!tree.isEmpty() && (best == null || tree.length() < best.length()
                    || tree.length() == best.length() && tree.compareTo(best) < 0)) {
                best = tree;
                of = e.getKey();
            }
        }
        int nodes = !some ? 0 : best == null ? 41 : best.length();
        check("first " + p + q + type, type == 2 ? x.total(p, q, 0) : x.typed(p, q, 0), nodes);
        check("first of " + p + q + type, type == 2 ? x.total(p, q, 1) : x.typed(p, q, 1), of);
    }

    /** All small trees, one by one, by their outputs. */
    void askSmallTrees(int p, List<List<String>> trees) {
        Map<Integer, String> first = new HashMap<>();
        for (List<String> ofSize : trees) {
            for (String tree : ofSize) {
                first.putIfAbsent(profileByOutput(s, p, tree), tree);
            }
        }
        int most = trees.size() - 1;
        for (int profile = 0; profile < 54; profile++) {
            int got = x.least(p, profile, -1);
            String tree = first.get(profile);
            if (tree == null) {
                check("none so small " + profile, got == NONE || got > most ? 1 : 0, 1);
                continue;
            }
            check("small " + profile, got, tree.length());
            for (int i = 0; i < tree.length(); i++) {
                check("small " + profile + " " + i, x.least(p, profile, i), tree.charAt(i) - 'a');
            }
        }
    }

    void actRandom() {
        switch (below(9)) {
            case 0, 1 -> enterRandom();
            case 2, 3 -> cutOrShift();
            case 4 -> leafRandom();
            case 5, 6 -> flipOrRename();
            default -> undoKeepBack();
        }
    }

    public static void main(String[] args) {
        int runs = args.length > 0 ? Integer.parseInt(args[0]) : 150;
        List<List<String>> small = treesBySize(6);
        for (int run = 0; run < runs; run++) {
            ModelTest test = new ModelTest();
            test.askProgram();
            for (int round = 0; round < 4; round++) {
                test.layRandom();
                for (int n = 0; n < 5; n++) {
                    test.askProgram();
                    test.askOutputs();
                    test.askCensus(0);
                    test.askCensus(1);
                    for (int acts = 0; acts < 6; acts++) {
                        test.actRandom();
                    }
                }
                test.askSmallTrees(0, small);
                test.askSmallTrees(1, small);
            }
        }
        for (String items : FAR) {
            ModelTest test = new ModelTest();
            test.layFar(items);
            test.askProgram();
            for (int n = 0; n < 8; n++) {
                test.askCensus(0);
                test.actRandom();
            }
        }
        System.out.println("the largest least tree had " + large + " nodes");
        due.end();
    }
}
