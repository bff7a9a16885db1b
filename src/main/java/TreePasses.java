import java.util.Arrays;

/** A compiler of passes over trees, as DOC.md promises it. */
public final class TreePasses {
    public static final int BAD = -1, NO = -2, FULL = -3, NONE = -4;

    private static final int TREES = 3, NODES = 11, LETTERS = 5;
    private static final int PASSES = 2, STATES = 3, KINDS = 4;
    private static final int AUTOMATA = 2, LOOK = 0, TYPE = 1, ENTRIES = 4;
    private static final int RULES = 16, PIECES = 7;
    private static final int TEXT = 200, UNDOABLE = 8, KEEPABLE = 2;

    /** The cells of a rule: what it is for, its size, then its pieces. */
    private static final int PASS = 0, STATE = 1, LETTER = 2, SIGHT = 3, SIZE = 4, FIRST = 5;
    private static final int CELLS = FIRST + PIECES;

    /** A sight is 0, 1 or ANY; who looks with ANY finds just the rules told with *. */
    private static final int ANY = 2, SIGHTS = 3;

    /** A piece from here on is a call: twice the state, and 1 for y, are added. */
    private static final int CALL = 10;

    /** The most letters of an output, and of a least tree. */
    private static final int LONGEST = 40;

    /** Seven pieces in each of eleven nodes make no deeper tree than this. */
    private static final int DEEPEST = 80;

    /** Far above the 41 letters times DEEPEST nodes that a walk can come to. */
    private static final int STEPS = 100000;

    private static final int PROFILES = 54, LACKING = 2;

    /** Stuck is told as this less the node; in the tree between, by so much lower. */
    private static final int STUCK = -10, BETWEEN = 50;

    private static final int[] CHILDREN = {0, 0, 1, 2, 2};

    /** Bit i of the k-th is bit k of i: where one of six answers is 1, among all the ways they can be. */
    private static final long[] WHERE = {0xAAAAAAAAAAAAAAAAL, 0xCCCCCCCCCCCCCCCCL, 0xF0F0F0F0F0F0F0F0L,
        0xFF00FF00FF00FF00L, 0xFFFF0000FFFF0000L, 0xFFFFFFFF00000000L};

    private static final String AT_FIRST =
        "t0=dcab;t1=ccb;t2=edabca;m0b=1;m0c=01;m0d=0110;m1a=1;m1d=0001;r00a*=b;r00b*=ca;r00c*=d0x1x;r00d0=e1y0x;r00d1=c0x;r01a*=a;r01c*=1x;r10a*=a;r10b*=cb;r10c*=0x;r10d*=d1x0y;r11a*=b;r11b*=a;";

    private final Scroll scroll = new Scroll();
    private final Program now = new Program();
    private final Program draft = new Program();
    private final Shelf past = new Shelf(UNDOABLE);
    private final Shelf kept = new Shelf(KEEPABLE);
    private final Standing ground = new Standing();
    private final Standing between = new Standing();
    private final Unmade unmade = new Unmade();
    private final Walk walk = new Walk();
    private final Census firstCensus = new Census(0);
    private final Census secondCensus = new Census(1);
    private final int[] row = new int[CELLS];

    public TreePasses() {
        for (int i = 0; i < AT_FIRST.length(); i++) {
            scroll.add(AT_FIRST.charAt(i));
        }
        scroll.readProgram(now);
        scroll.clear();
    }

    // ---- programs

    public int write(int letter) {
        if (letter < 32 || letter > 126) {
            return BAD;
        }
        return scroll.add(letter) ? scroll.length() : FULL;
    }

    public int wipe() {
        int was = scroll.length();
        scroll.clear();
        return was;
    }

    public int fault() {
        return scroll.readProgram(draft);
    }

    public int lay() {
        if (scroll.readProgram(draft) != NONE || draft.ruled == 0) {
            return NO;
        }
        now.copy(draft);
        past.clear();
        kept.clear();
        forgetCensus();
        return now.ruled;
    }

    public int tree(int t, int v) {
        if (!within(t, TREES) || v < -1) {
            return BAD;
        }
        if (v == -1) {
            return now.nodesOf(t);
        }
        return now.hasNode(t, v) ? now.letterOf(t, v) : NONE;
    }

    public int value(int m, int t, int v) {
        if (!within(m, AUTOMATA) || !now.hasNode(t, v)) {
            return BAD;
        }
        ground.takeTree(now, t, m);
        return ground.sightAt(v);
    }

    public int table(int m, int f, int k) {
        return hasEntry(m, f, k) ? now.entry(m, f, k) : BAD;
    }

    public int rule(int r, int what) {
        if (!now.hasRule(r) || !within(what, FIRST)) {
            return BAD;
        }
        return now.cell(r, what);
    }

    public int piece(int r, int i) {
        if (!now.hasRule(r) || i < 0) {
            return BAD;
        }
        return now.pieceOf(r, i);
    }

    // ---- acts

    public int enter(int r) {
        if (r < 0 || r > now.ruled) {
            return BAD;
        }
        if (r >= RULES) {
            return FULL;
        }
        int stop = scroll.readRuleAlone(row);
        if (stop != NONE) {
            return STUCK - stop;
        }
        past.put(now);
        now.setRule(r, row);
        changed();
        return now.ruled;
    }

    public int cut(int r) {
        if (!now.hasRule(r)) {
            return BAD;
        }
        past.put(now);
        now.removeRule(r);
        changed();
        return now.ruled;
    }

    public int shift(int r, int to) {
        if (!now.hasRule(r) || !now.hasRule(to)) {
            return BAD;
        }
        if (r == to) {
            return NO;
        }
        past.put(now);
        now.moveRule(r, to, row);
        changed();
        return Math.abs(r - to);
    }

    public int leaf(int t, int v, int f) {
        if (!now.hasNode(t, v) || !within(f, LETTERS)) {
            return BAD;
        }
        int was = now.letterOf(t, v);
        if (childrenOf(was) != childrenOf(f)) {
            return BAD;
        }
        if (was == f) {
            return NO;
        }
        past.put(now);
        now.setLetter(t, v, f);
        return was;
    }

    public int flip(int m, int f, int k) {
        if (!hasEntry(m, f, k)) {
            return BAD;
        }
        past.put(now);
        now.setEntry(m, f, k, 1 - now.entry(m, f, k));
        forgetCensus();
        return now.entry(m, f, k);
    }

    public int rename(int p, int k) {
        if (!within(p, PASSES) || !within(k, KINDS)) {
            return BAD;
        }
        int was = now.kindOf(p);
        if (was == k) {
            return NO;
        }
        past.put(now);
        now.setKind(p, k);
        changed();
        return was;
    }

    public int undo() {
        if (past.held == 0) {
            return NO;
        }
        past.take(now);
        forgetCensus();
        return past.held;
    }

    // ---- what comes

    public int out(int p, int q, int t, int i) {
        if (!within(p, PASSES) || !within(q, STATES) || !within(t, TREES) || i < -1) {
            return BAD;
        }
        ground.takeTree(now, t, LOOK);
        return letterMade(walk.go(now, ground, p, q), i);
    }

    public int both(int t, int i) {
        if (!within(t, TREES) || i < -1) {
            return BAD;
        }
        ground.takeTree(now, t, LOOK);
        int first = walk.go(now, ground, 0, 0);
        if (first < 0) {
            return first;
        }
        between.takeRow(now, walk.output, walk.made);
        int second = walk.go(now, between, 1, 0);
        return letterMade(second <= STUCK ? second - BETWEEN : second, i);
    }

    public int one(int t, int i) {
        if (!within(t, TREES) || i < -1) {
            return BAD;
        }
        unmade.takeTree(now, t);
        return letterMade(walk.go(now, unmade, 1, 0), i);
    }

    public int linear(int p, int what) {
        if (!within(p, PASSES) || !within(what, 2)) {
            return BAD;
        }
        for (int r = 0; r < now.ruled; r++) {
            if (now.cell(r, PASS) == p && !(what == 0 ? now.isLinear(r) : now.isWhole(r))) {
                return 0;
            }
        }
        return 1;
    }

    public int visits(int p, int t, int v) {
        if (!within(p, PASSES) || !now.hasNode(t, v)) {
            return BAD;
        }
        ground.takeTree(now, t, LOOK);
        walk.go(now, ground, p, 0);
        return walk.visitsOf(v);
    }

    // ---- all trees

    public int comes(int p) {
        if (!within(p, PASSES)) {
            return BAD;
        }
        Census census = censusOf(p);
        census.take(now);
        return census.met;
    }

    public int least(int p, int profile, int i) {
        if (!within(p, PASSES) || !within(profile, PROFILES) || i < -1) {
            return BAD;
        }
        Census census = censusOf(p);
        census.take(now);
        int size = census.sizeOf(profile);
        if (size == 0 || size > LONGEST || i >= size) {
            return NONE;
        }
        return i == -1 ? size : census.letterOf(profile, i);
    }

    public int total(int p, int q, int what) {
        return firstLeast(p, q, what, LACKING);
    }

    public int typed(int p, int q, int what) {
        return firstLeast(p, q, what, 0);
    }

    // ---- kept

    public int keep() {
        if (kept.held >= KEEPABLE) {
            return FULL;
        }
        kept.put(now);
        return kept.held;
    }

    public int back() {
        if (kept.held == 0) {
            return NO;
        }
        kept.take(now);
        past.clear();
        forgetCensus();
        return kept.held;
    }

    public int count(int what) {
        switch (what) {
            case 0: return now.ruled;
            case 1: return now.rulesOf(0);
            case 2: return now.rulesOf(1);
            case 3: return now.kindOf(0);
            case 4: return now.kindOf(1);
            case 5: return now.nodesOf(0) + now.nodesOf(1) + now.nodesOf(2);
            case 6: return past.held;
            case 7: return kept.held;
            case 8: return scroll.length();
            default: return BAD;
        }
    }

    // ---- helpers

    private static boolean within(int n, int size) {
        return n >= 0 && n < size;
    }

    private static int childrenOf(int letter) {
        return letter >= 0 && letter < LETTERS ? CHILDREN[letter] : 0;
    }

    private static boolean hasEntry(int m, int f, int k) {
        return within(m, AUTOMATA) && within(f, LETTERS) && within(k, 1 << childrenOf(f));
    }

    private static int stateCalled(int piece) {
        return (piece - CALL) / 2;
    }

    private void changed() {
        now.choose();
        forgetCensus();
    }

    private void forgetCensus() {
        firstCensus.forget();
        secondCensus.forget();
    }

    private Census censusOf(int p) {
        return p == 0 ? firstCensus : secondCensus;
    }

    private int letterMade(int outcome, int i) {
        return outcome < 0 || i == -1 ? outcome : walk.letterOf(i);
    }

    private int firstLeast(int p, int q, int what, int type) {
        if (!within(p, PASSES) || !within(q, STATES) || !within(what, 2)) {
            return BAD;
        }
        Census census = censusOf(p);
        census.take(now);
        int profile = census.firstWith(q, type);
        int size = census.sizeOf(profile);
        if (what == 0) {
            return size;
        }
        return size == 0 || size > LONGEST ? NONE : profile;
    }

    /** All that stands but the text: trees, kinds, automata, rules. */
    private static final class Program {
        private final int[] letters = new int[TREES * NODES];
        private final int[] sizes = new int[TREES];
        private final int[] kinds = new int[PASSES];
        private final int[] entries = new int[AUTOMATA * LETTERS * ENTRIES];
        private final int[] rules = new int[RULES * CELLS];
        private final int[] chosen = new int[PASSES * STATES * LETTERS * SIGHTS];
        private int ruled;

        void clear() {
            Arrays.fill(letters, 0);
            Arrays.fill(sizes, 1);
            Arrays.fill(kinds, 0);
            Arrays.fill(entries, 0);
            ruled = 0;
        }

        void copy(Program other) {
            System.arraycopy(other.letters, 0, letters, 0, TREES * NODES);
            System.arraycopy(other.sizes, 0, sizes, 0, TREES);
            System.arraycopy(other.kinds, 0, kinds, 0, PASSES);
            System.arraycopy(other.entries, 0, entries, 0, AUTOMATA * LETTERS * ENTRIES);
            System.arraycopy(other.rules, 0, rules, 0, RULES * CELLS);
            System.arraycopy(other.chosen, 0, chosen, 0, PASSES * STATES * LETTERS * SIGHTS);
            ruled = other.ruled;
        }

        int nodesOf(int t) {
            return within(t, TREES) ? sizes[t] : 0;
        }

        boolean hasNode(int t, int v) {
            return within(t, TREES) && within(v, NODES) && v < sizes[t];
        }

        int letterOf(int t, int v) {
            return hasNode(t, v) ? letters[t * NODES + v] : NONE;
        }

        void setLetter(int t, int v, int f) {
            if (hasNode(t, v)) {
                letters[t * NODES + v] = f;
            }
        }

        void setTree(int t, int[] from, int size) {
            if (within(t, TREES) && size > 0 && size <= NODES && size <= from.length) {
                System.arraycopy(from, 0, letters, t * NODES, size);
                sizes[t] = size;
            }
        }

        int kindOf(int p) {
            return within(p, PASSES) ? kinds[p] : 0;
        }

        void setKind(int p, int kind) {
            if (within(p, PASSES)) {
                kinds[p] = kind;
            }
        }

        int entry(int m, int f, int k) {
            if (!within(m, AUTOMATA) || !within(f, LETTERS) || !within(k, ENTRIES)) {
                return 0;
            }
            return entries[(m * LETTERS + f) * ENTRIES + k];
        }

        void setEntry(int m, int f, int k, int value) {
            if (hasEntry(m, f, k)) {
                entries[(m * LETTERS + f) * ENTRIES + k] = value;
            }
        }

        boolean hasRule(int r) {
            return within(r, RULES) && r < ruled;
        }

        int rulesOf(int p) {
            int n = 0;
            for (int r = 0; r < ruled; r++) {
                if (cell(r, PASS) == p) {
                    n++;
                }
            }
            return n;
        }

        int cell(int r, int c) {
            return within(r, RULES) && within(c, CELLS) ? rules[r * CELLS + c] : 0;
        }

        int pieceOf(int r, int i) {
            if (!within(r, RULES) || !within(i, PIECES)) {
                return NONE;
            }
            int at = r * CELLS;
            return i < rules[at + SIZE] ? rules[at + FIRST + i] : NONE;
        }

        void setRule(int r, int[] from) {
            if (r < 0 || r > ruled || r >= RULES || from.length < CELLS) {
                return;
            }
            System.arraycopy(from, 0, rules, r * CELLS, CELLS);
            if (r == ruled) {
                ruled++;
            }
        }

        void removeRule(int r) {
            if (hasRule(r)) {
                ruled--;
                System.arraycopy(rules, (r + 1) * CELLS, rules, r * CELLS, (ruled - r) * CELLS);
            }
        }

        void moveRule(int r, int to, int[] spare) {
            if (!hasRule(r) || !hasRule(to) || spare.length < CELLS) {
                return;
            }
            System.arraycopy(rules, r * CELLS, spare, 0, CELLS);
            if (r < to) {
                System.arraycopy(rules, (r + 1) * CELLS, rules, r * CELLS, (to - r) * CELLS);
            } else {
                System.arraycopy(rules, to * CELLS, rules, (to + 1) * CELLS, (r - to) * CELLS);
            }
            System.arraycopy(spare, 0, rules, to * CELLS, CELLS);
        }

        /** Rules are asked for at every node, so who takes which is worked out once a change. */
        void choose() {
            Arrays.fill(chosen, NONE);
            for (int r = 0; r < ruled; r++) {
                int sight = cell(r, SIGHT);
                for (int look = 0; look < SIGHTS; look++) {
                    if (sight == ANY || sight == look) {
                        offerRule(r, look);
                    }
                }
            }
        }

        private void offerRule(int r, int look) {
            int p = cell(r, PASS);
            int at = choiceAt(p, cell(r, STATE), cell(r, LETTER), look);
            boolean takesLast = (kindOf(p) & 1) != 0;
            if (within(at, chosen.length) && (chosen[at] < 0 || takesLast)) {
                chosen[at] = r;
            }
        }

        /** The rule that a pass takes in a state, or one below 0. */
        int chosenRule(int p, int q, int f, int look) {
            if (!within(p, PASSES) || !within(q, STATES) || !within(f, LETTERS) || !within(look, SIGHTS)) {
                return NONE;
            }
            return chosen[choiceAt(p, q, f, look)];
        }

        private static int choiceAt(int p, int q, int f, int look) {
            return ((p * STATES + q) * LETTERS + f) * SIGHTS + look;
        }

        /** Which child (0 the first) of a node of letter f a call of a pass means. */
        int childCalled(int p, int f, int piece) {
            int child = (piece - CALL) & 1;
            boolean mirrored = within(p, PASSES) && (kinds[p] & 2) != 0;
            return mirrored && childrenOf(f) == 2 ? 1 - child : child;
        }

        boolean isLinear(int r) {
            return callsFor(r, 0) < 2 && callsFor(r, 1) < 2;
        }

        boolean isWhole(int r) {
            for (int child = 0; child < childrenOf(cell(r, LETTER)); child++) {
                if (callsFor(r, child) == 0) {
                    return false;
                }
            }
            return true;
        }

        private int callsFor(int r, int child) {
            int n = 0;
            for (int i = 0; i < cell(r, SIZE); i++) {
                int piece = pieceOf(r, i);
                if (piece >= CALL && ((piece - CALL) & 1) == child) {
                    n++;
                }
            }
            return n;
        }
    }

    /** Programs laid by, the latest taken first; one too many pushes out the earliest. */
    private static final class Shelf {
        private final Program[] programs;
        private int first, held;

        Shelf(int room) {
            programs = new Program[Math.max(1, room)];
            for (int i = 0; i < programs.length; i++) {
                programs[i] = new Program();
            }
        }

        void clear() {
            held = 0;
        }

        void put(Program program) {
            int at = placeOf(held);
            if (held < programs.length) {
                held++;
            } else {
                first = placeOf(1);
            }
            if (within(at, programs.length)) {
                programs[at].copy(program);
            }
        }

        void take(Program into) {
            int at = placeOf(held - 1);
            if (held > 0 && within(at, programs.length)) {
                held--;
                into.copy(programs[at]);
            }
        }

        private int placeOf(int n) {
            int at = first + n;
            return at < programs.length ? at : at - programs.length;
        }
    }

    /** The text, and how it is read. */
    private static final class Scroll {
        private final char[] text = new char[TEXT];
        private final int[] row = new int[Math.max(CELLS, NODES)];
        private int size, at;
        private boolean stopped;

        boolean add(int letter) {
            if (size >= TEXT) {
                return false;
            }
            text[size] = (char) letter;
            size++;
            return true;
        }

        void clear() {
            size = 0;
        }

        int length() {
            return size;
        }

        /** Reads the text as items: the place of the first wrong one, or NONE. */
        int readProgram(Program into) {
            into.clear();
            begin();
            for (int items = 0; items < TEXT && at < size; items++) {
                int start = at;
                readItem(into);
                expect(';');
                if (stopped) {
                    return start;
                }
            }
            into.choose();
            return NONE;
        }

        /** Reads the text as a rule: the place where it can't go on so, or NONE. */
        int readRuleAlone(int[] into) {
            begin();
            readRule(into);
            return stopped || at < size ? at : NONE;
        }

        private void begin() {
            at = 0;
            stopped = false;
        }

        private void readItem(Program into) {
            switch (next()) {
                case 't':
                    at++;
                    readTree(into);
                    break;
                case 'p':
                    at++;
                    readKind(into);
                    break;
                case 'm':
                    at++;
                    readEntries(into);
                    break;
                case 'r':
                    at++;
                    readRule(row);
                    stopped = stopped || into.ruled >= RULES;
                    if (!stopped) {
                        into.setRule(into.ruled, row);
                    }
                    break;
                default:
                    stopped = true;
            }
        }

        private void readTree(Program into) {
            int t = figure(TREES);
            expect('=');
            int nodes = readRow(row, 0, NODES, -1);
            if (!stopped) {
                into.setTree(t, row, nodes);
            }
        }

        private void readKind(Program into) {
            int p = figure(PASSES);
            int kind = figure(KINDS);
            if (!stopped) {
                into.setKind(p, kind);
            }
        }

        private void readEntries(Program into) {
            int m = figure(AUTOMATA);
            int f = letter();
            expect('=');
            int n = 1 << childrenOf(f);
            for (int k = 0; k < n && !stopped; k++) {
                int value = figure(2);
                if (!stopped) {
                    into.setEntry(m, f, k, value);
                }
            }
        }

        private void readRule(int[] into) {
            if (into.length < CELLS) {
                stopped = true;
                return;
            }
            into[PASS] = figure(PASSES);
            into[STATE] = figure(STATES);
            into[LETTER] = letter();
            into[SIGHT] = sight();
            expect('=');
            into[SIZE] = readRow(into, FIRST, PIECES, into[LETTER]);
        }

        /**
         * Reads a tree of so many pieces at most, with calls as a rule for letter f has them.
         * A piece that would leave no room for what must still come is already one too many.
         */
        private int readRow(int[] into, int from, int most, int f) {
            int pieces = 0;
            int due = 1;
            while (due > 0 && pieces < most && from + pieces < into.length && !stopped) {
                int piece = readPiece(f, most - pieces - due);
                into[from + pieces] = piece;
                due += childrenOf(piece) - 1;
                pieces++;
            }
            return pieces;
        }

        private int readPiece(int f, int room) {
            int sign = next();
            if (sign >= '0' && sign <= '9' && childrenOf(f) > 0) {
                int state = figure(STATES);
                return CALL + 2 * state + callSign(f);
            }
            int piece = sign - 'a';
            if (stopped || !within(piece, LETTERS) || childrenOf(piece) > room) {
                stopped = true;
                return 0;
            }
            at++;
            return piece;
        }

        private int callSign(int f) {
            int child = next() - 'x';
            if (stopped || !within(child, childrenOf(f))) {
                stopped = true;
                return 0;
            }
            at++;
            return child;
        }

        private int letter() {
            int f = next() - 'a';
            if (stopped || !within(f, LETTERS)) {
                stopped = true;
                return 0;
            }
            at++;
            return f;
        }

        private int sight() {
            if (!stopped && next() == '*') {
                at++;
                return ANY;
            }
            return figure(ANY);
        }

        private int figure(int below) {
            int n = next() - '0';
            if (stopped || !within(n, below)) {
                stopped = true;
                return 0;
            }
            at++;
            return n;
        }

        private void expect(char sign) {
            if (stopped || next() != sign) {
                stopped = true;
                return;
            }
            at++;
        }

        private int next() {
            return at >= 0 && at < size && at < TEXT ? text[at] : NONE;
        }
    }

    /** What a pass goes over. A place below 0 is none: there whoever makes it is stuck. */
    private abstract static class Ground {
        abstract int topPlace(Program program);

        abstract int below(Program program, int place, int child);

        abstract int letterAt(Program program, int place);

        abstract int sightAt(int place);

        abstract int nodeAt(int place);
    }

    /** A tree that stands whole, with what an automaton makes of it: a place is a node. */
    private static final class Standing extends Ground {
        private final int[] letters = new int[LONGEST];
        private final int[] spans = new int[LONGEST];
        private final int[] values = new int[LONGEST];
        private int nodes;

        void takeTree(Program program, int t, int m) {
            nodes = Math.min(program.nodesOf(t), LONGEST);
            for (int v = 0; v < nodes; v++) {
                letters[v] = program.letterOf(t, v);
            }
            weigh(program, m);
        }

        void takeRow(Program program, int[] from, int size) {
            nodes = Math.max(0, Math.min(Math.min(size, from.length), LONGEST));
            System.arraycopy(from, 0, letters, 0, nodes);
            weigh(program, LOOK);
        }

        private void weigh(Program program, int m) {
            for (int v = nodes - 1; v >= 0; v--) {
                int span = 1;
                int k = 0;
                for (int child = 0; child < childrenOf(letters[v]); child++) {
                    int at = v + span;
                    if (within(at, nodes)) {
                        k = 2 * k + values[at];
                        span += spans[at];
                    }
                }
                spans[v] = span;
                values[v] = program.entry(m, letters[v], k);
            }
        }

        int topPlace(Program program) {
            return 0;
        }

        int below(Program program, int place, int child) {
            int first = place + 1;
            return child == 0 || !within(first, nodes) ? first : first + spans[first];
        }

        int letterAt(Program program, int place) {
            return within(place, nodes) ? letters[place] : NONE;
        }

        int sightAt(int place) {
            return within(place, nodes) ? values[place] : 0;
        }

        int nodeAt(int place) {
            return place;
        }
    }

    /** What pass 0 would make of a tree: a place is a node, the rule taken there, a piece of it. */
    private static final class Unmade extends Ground {
        private final Standing tree = new Standing();

        void takeTree(Program program, int t) {
            tree.takeTree(program, t, LOOK);
        }

        int topPlace(Program program) {
            return make(program, 0, 0);
        }

        int below(Program program, int place, int child) {
            int r = ruleAt(place);
            int i = pieceAt(place) + 1;
            if (child == 1) {
                i = behind(program, r, i);
            }
            int piece = program.pieceOf(r, i);
            int node = nodeAt(place);
            if (piece < CALL) {
                return placeOf(node, r, i);
            }
            int called = program.childCalled(0, tree.letterAt(program, node), piece);
            return make(program, stateCalled(piece), tree.below(program, node, called));
        }

        int letterAt(Program program, int place) {
            return program.pieceOf(ruleAt(place), pieceAt(place));
        }

        /** The tree between isn't there to be looked at: just rules told with * are taken. */
        int sightAt(int place) {
            return ANY;
        }

        int nodeAt(int place) {
            return place / (RULES * PIECES);
        }

        private static int ruleAt(int place) {
            return place / PIECES % RULES;
        }

        private static int pieceAt(int place) {
            return place % PIECES;
        }

        private static int placeOf(int node, int r, int i) {
            return (node * RULES + r) * PIECES + i;
        }

        /** Goes on down while all that pass 0 makes of a node is a call. */
        private int make(Program program, int q, int v) {
            int state = q;
            int node = v;
            for (int deep = 0; deep < NODES; deep++) {
                int f = tree.letterAt(program, node);
                int r = program.chosenRule(0, state, f, tree.sightAt(node));
                if (r < 0) {
                    return STUCK - node;
                }
                int piece = program.pieceOf(r, 0);
                if (piece < CALL) {
                    return placeOf(node, r, 0);
                }
                state = stateCalled(piece);
                node = tree.below(program, node, program.childCalled(0, f, piece));
            }
            return STUCK - node;
        }

        /** The piece behind the subtree that begins with piece i. */
        private static int behind(Program program, int r, int i) {
            int due = 1;
            int at = i;
            while (due > 0 && at < PIECES) {
                due += childrenOf(program.pieceOf(r, at)) - 1;
                at++;
            }
            return at;
        }
    }

    /** A pass on its way over a ground: the rules under way, what they made, where they came. */
    private static final class Walk {
        private final int[] output = new int[LONGEST];
        private final int[] comings = new int[LONGEST];
        private final int[] places = new int[DEEPEST];
        private final int[] rules = new int[DEEPEST];
        private final int[] nexts = new int[DEEPEST];
        private int made, depth;

        /** How many letters were made; FULL if long; STUCK less the node if stuck. */
        int go(Program program, Ground ground, int p, int q) {
            Arrays.fill(comings, 0);
            made = 0;
            depth = 0;
            int stop = come(program, ground, p, q, ground.topPlace(program));
            for (int n = 0; n < STEPS && stop == 0 && depth > 0; n++) {
                stop = step(program, ground, p);
            }
            return stop < 0 ? stop : made;
        }

        int letterOf(int i) {
            return within(i, made) && i < LONGEST ? output[i] : NONE;
        }

        int visitsOf(int node) {
            return within(node, LONGEST) ? comings[node] : 0;
        }

        private int step(Program program, Ground ground, int p) {
            int top = depth - 1;
            if (!within(top, DEEPEST)) {
                return FULL;
            }
            int piece = program.pieceOf(rules[top], nexts[top]);
            if (piece == NONE) {
                depth--;
                return 0;
            }
            nexts[top]++;
            if (piece < CALL) {
                return append(piece);
            }
            int place = places[top];
            int child = program.childCalled(p, ground.letterAt(program, place), piece);
            return come(program, ground, p, stateCalled(piece), ground.below(program, place, child));
        }

        private int append(int letter) {
            if (made >= LONGEST) {
                return FULL;
            }
            output[made] = letter;
            made++;
            return 0;
        }

        private int come(Program program, Ground ground, int p, int q, int place) {
            if (place < 0) {
                return place;
            }
            int node = ground.nodeAt(place);
            if (within(node, LONGEST)) {
                comings[node]++;
            }
            int r = program.chosenRule(p, q, ground.letterAt(program, place), ground.sightAt(place));
            if (r < 0) {
                return STUCK - node;
            }
            if (!within(depth, DEEPEST)) {
                return FULL;
            }
            places[depth] = place;
            rules[depth] = r;
            nexts[depth] = 0;
            depth++;
            return 0;
        }
    }

    /**
     * The profiles of all trees by a pass, settled from the least tree on, by nodes, then letters.
     * A least tree is held as its letter and the profiles of its subtrees, which are least too.
     * The type of what a rule makes hangs on six answers at most, of three states for two children:
     * it is worked out once a rule, for all 64 ways that they can be, since it is asked for each two profiles.
     */
    private static final class Census {
        private final int pass;
        private final int[] heads = new int[PROFILES];
        private final int[] lefts = new int[PROFILES];
        private final int[] rights = new int[PROFILES];
        private final int[] sizes = new int[PROFILES];
        private final int[] order = new int[PROFILES];
        private final boolean[] settled = new boolean[PROFILES];
        private final int[] ones = new int[PROFILES];
        private final int[] lacks = new int[PROFILES];
        private final int[] taken = new int[LETTERS * ANY * STATES];
        private final int[] calls = new int[RULES];
        private final long[] types = new long[RULES];
        private final long[] stack = new long[PIECES];
        private int met;
        private boolean fresh;

        Census(int p) {
            pass = p;
        }

        void forget() {
            fresh = false;
        }

        void take(Program program) {
            if (fresh) {
                return;
            }
            begin(program);
            offer(program, 0, NONE, NONE);
            offer(program, 1, NONE, NONE);
            for (int n = 0; n < PROFILES; n++) {
                int profile = nearest();
                if (!within(profile, PROFILES)) {
                    break;
                }
                settle(profile, n);
                offer(program, 2, profile, NONE);
                for (int k = 0; k <= n; k++) {
                    offer(program, 3, profile, order[k]);
                    offer(program, 4, profile, order[k]);
                    if (k < n) {
                        offer(program, 3, order[k], profile);
                        offer(program, 4, order[k], profile);
                    }
                }
            }
            fresh = true;
        }

        private void begin(Program program) {
            met = 0;
            Arrays.fill(sizes, 0);
            for (int profile = 0; profile < PROFILES; profile++) {
                settled[profile] = false;
            }
            for (int r = 0; r < RULES; r++) {
                if (program.hasRule(r) && program.cell(r, PASS) == pass) {
                    workOut(program, r);
                }
            }
            for (int at = 0; at < taken.length; at++) {
                taken[at] = program.chosenRule(pass, at % STATES, at / STATES / ANY, at / STATES % ANY);
            }
        }

        private void settle(int profile, int n) {
            settled[profile] = true;
            order[n] = profile;
            met = n + 1;
            ones[profile] = 0;
            lacks[profile] = 0;
            for (int q = 0; q < STATES; q++) {
                int type = typeIn(profile, q);
                if (type == 1) {
                    ones[profile] |= 1 << q;
                } else if (type == LACKING) {
                    lacks[profile] |= 1 << q;
                }
            }
        }

        /** How many nodes the least tree has: 0 if there is none, 41 if more than 40. */
        int sizeOf(int profile) {
            return within(profile, PROFILES) ? sizes[profile] : 0;
        }

        int letterOf(int profile, int i) {
            int at = profile;
            int ahead = i;
            for (int deep = 0; deep < LONGEST && ahead > 0 && within(at, PROFILES); deep++) {
                ahead--;
                int first = sizeOf(lefts[at]);
                if (ahead < first) {
                    at = lefts[at];
                } else {
                    ahead -= first;
                    at = rights[at];
                }
            }
            return within(at, PROFILES) ? heads[at] : NONE;
        }

        int firstWith(int q, int type) {
            for (int n = 0; n < met && n < PROFILES; n++) {
                if (typeIn(order[n], q) == type) {
                    return order[n];
                }
            }
            return NONE;
        }

        private int nearest() {
            int best = NONE;
            for (int profile = 0; profile < PROFILES; profile++) {
                if (sizes[profile] > 0 && !settled[profile]
                        && (best < 0 || isBefore(profile, heads[best], lefts[best], rights[best], sizes[best]))) {
                    best = profile;
                }
            }
            return best;
        }

        private void offer(Program program, int f, int left, int right) {
            int profile = profileOf(program, f, left, right);
            if (!within(profile, PROFILES) || settled[profile]) {
                return;
            }
            int size = Math.min(LONGEST + 1, 1 + sizeOf(left) + sizeOf(right));
            if (sizes[profile] == 0 || !isBefore(profile, f, left, right, size)) {
                heads[profile] = f;
                lefts[profile] = left;
                rights[profile] = right;
                sizes[profile] = size;
            }
        }

        /** Whether what a profile has so far comes ahead of a tree told so. */
        private boolean isBefore(int profile, int f, int left, int right, int size) {
            if (sizes[profile] != size) {
                return sizes[profile] < size;
            }
            if (size > LONGEST) {
                return true;
            }
            if (heads[profile] != f) {
                return heads[profile] < f;
            }
            return lefts[profile] != left ? precedes(lefts[profile], left) : precedes(rights[profile], right);
        }

        /** Whether one least tree comes ahead of another, letter by letter: no tree begins another. */
        private boolean precedes(int profile, int other) {
            int a = profile;
            int b = other;
            for (int deep = 0; deep < LONGEST && a != b && within(a, PROFILES) && within(b, PROFILES); deep++) {
                if (heads[a] != heads[b]) {
                    return heads[a] < heads[b];
                }
                boolean sameLeft = lefts[a] == lefts[b];
                int nextA = sameLeft ? rights[a] : lefts[a];
                b = sameLeft ? rights[b] : lefts[b];
                a = nextA;
            }
            return true;
        }

        private int profileOf(Program program, int f, int left, int right) {
            int k = 0;
            int lacking = 0;
            int one = 0;
            if (within(left, PROFILES)) {
                k = left & 1;
                lacking = lacks[left];
                one = ones[left];
            }
            if (within(right, PROFILES)) {
                k = 2 * k + (right & 1);
                lacking |= lacks[right] << STATES;
                one |= ones[right] << STATES;
            }
            int look = program.entry(LOOK, f, k);
            int profile = look;
            int weight = 2;
            int at = (f * ANY + look) * STATES;
            for (int q = 0; q < STATES && within(at + q, taken.length); q++) {
                int r = taken[at + q];
                boolean stuck = !within(r, RULES) || (calls[r] & lacking) != 0;
                profile += weight * (stuck ? LACKING : (int) (types[r] >>> one & 1));
                weight *= 3;
            }
            return profile;
        }

        /** From the last piece of a rule to its first, so that a letter finds its children on the stack. */
        private void workOut(Program program, int r) {
            int f = program.cell(r, LETTER);
            int held = 0;
            int called = 0;
            for (int i = program.cell(r, SIZE) - 1; i >= 0; i--) {
                int piece = program.pieceOf(r, i);
                long type;
                if (piece >= CALL) {
                    int answer = STATES * program.childCalled(pass, f, piece) + stateCalled(piece);
                    called |= 1 << answer;
                    type = within(answer, WHERE.length) ? WHERE[answer] : 0;
                } else {
                    type = typeAbove(program, piece, held);
                    held -= childrenOf(piece);
                }
                if (within(held, PIECES)) {
                    stack[held] = type;
                    held++;
                }
            }
            calls[r] = called;
            types[r] = stack[0];
        }

        /** The type of a node whose children are the last on the stack, the first child the very last. */
        private long typeAbove(Program program, int f, int held) {
            int children = childrenOf(f);
            if (held < children || held > PIECES) {
                return 0;
            }
            long type = 0;
            for (int k = 0; k < 1 << children; k++) {
                if (program.entry(TYPE, f, k) == 1) {
                    long so = -1;
                    for (int child = 0; child < children; child++) {
                        long of = stack[held - 1 - child];
                        so &= (k >> (children - 1 - child) & 1) == 1 ? of : ~of;
                    }
                    type |= so;
                }
            }
            return type;
        }

        private static int typeIn(int profile, int q) {
            if (q == 0) {
                return profile / 2 % 3;
            }
            return q == 1 ? profile / 6 % 3 : profile / 18;
        }
    }
}
