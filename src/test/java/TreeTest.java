import java.util.NoSuchElementException;

/** Promises 9 to 19. */
public final class TreeTest {
    private static final Checks IS = new Checks();
    private static final Class<IndexOutOfBoundsException> NONE = IndexOutOfBoundsException.class;
    private static final Class<NoSuchElementException> NOTHING = NoSuchElementException.class;
    private static final Class<IllegalArgumentException> WRONG = IllegalArgumentException.class;

    public static void main(String[] args) {
        begin();
        beginAgain();
        solve();
        orders();
        rules();
        closedByBound();
        tooManyNodes();
        leastPoints();
        counts();
        statesAndParents();
        bounds();
        valuesAndPoints();
        bound();
        IS.end("TreeTest");
    }

    private static void begin() {
        BranchQuarry q = new BranchQuarry();
        IS.fails("9: no columns", q, IllegalStateException.class, () -> q.begin('b', 'f'));
        IS.fails("9: the order is looked at first", q, WRONG, () -> q.begin('x', 'f'));
        IS.fails("9: the rule is looked at first", q, WRONG, () -> q.begin('d', 'b'));
        q.addColumn(1, 0, 9, true);
        q.addColumn(1, 0, 9, false);
        q.addColumn(1, 2, 9, true);
        IS.fails("9: no such order", q, WRONG, () -> q.begin('f', 'f'));
        IS.fails("9: no such rule", q, WRONG, () -> q.begin('b', 'B'));
        q.addRow('l', 4, 1, 0, 0, 0);
        for (char order : new char[] {'b', 'd'}) {
            for (char rule : new char[] {'f', 'h', 'l'}) {
                IS.same("9: whole columns", 2, q.begin(order, rule));
            }
        }
        IS.same("9: one node", 1, q.nodes());
        IS.same("9: with the bounds as told", "0 9", q.lowerAt(0, 0) + " " + q.upperAt(0, 0));
        BranchQuarry tight = new BranchQuarry();
        tight.addColumn(1, 0, 9, false);
        tight.addColumn(1, 0, 9, true);
        tight.addRow('l', 4, 0, 1, 0, 0);
        tight.addRow('g', 1, 0, 1, 0, 0);
        tight.tighten();
        IS.same("9: one whole column", 1, tight.begin('d', 'h'));
        IS.same("9: with the tight bounds", "1 4", tight.lowerAt(0, 1) + " " + tight.upperAt(0, 1));
        tight.addRow('g', 2, 0, 1, 0, 0);
        IS.same("9: a later row does not make them tighter", 1, tight.lowerAt(0, 1));
    }

    private static void beginAgain() {
        BranchQuarry q = Programs.two('b', 'f');
        q.solve(41);
        q.cutByRounding(0, 0, 2);
        IS.same("9: a gain ahead", 2, q.gain(0, true));
        q.begin('d', 'h');
        IS.same("9: the node 0 alone", 1, q.nodes());
        IS.same("9: it is open", 'o', q.state(0));
        IS.same("9: no cuts", 0, q.cuts());
        IS.same("9: no gains", 1, q.gain(0, true));
        IS.fails("9: no best solution", q, NOTHING, q::best);
        q.solve(41);
        IS.same("9: the new order and rule", "pppspsib".length() + 1, q.nodes());
    }

    private static void solve() {
        BranchQuarry q = Programs.two('b', 'f');
        IS.fails("10: 0 nodes", q, WRONG, () -> q.solve(0));
        IS.fails("10: 42 nodes", q, WRONG, () -> q.solve(42));
        IS.fails("10: -1 nodes", q, WRONG, () -> q.solve(-1));
        IS.same("10: one", 1, q.solve(1));
        IS.same("10: states after one", "poo", Checks.states(q));
        IS.same("10: two more", 2, q.solve(2));
        IS.same("10: the rest", 8, q.solve(41));
        IS.same("10: nothing is open", 0, q.solve(41));
        BranchQuarry none = new BranchQuarry();
        IS.fails("10: no tree", none, IllegalStateException.class, () -> none.solve(1));
        IS.fails("10: the range is looked at first", none, WRONG, () -> none.solve(0));

        BranchQuarry whole = new BranchQuarry();
        whole.addColumn(-1, 0, 3, true);
        whole.begin('b', 'f');
        IS.same("10: a whole point", 1, whole.solve(41));
        IS.same("10: is a solution", 's', whole.state(0));
        IS.same("10: and the best one", Checks.fraction(-3, 1), whole.best());
        BranchQuarry loose = new BranchQuarry();
        loose.addColumn(-1, 0, 3, false);
        loose.addRow('l', 3, 2, 0, 0, 0);
        loose.begin('b', 'f');
        loose.solve(1);
        IS.same("10: without whole columns", 's', loose.state(0));
        IS.same("10: the point is the solution", Checks.fraction(3, 2), loose.solution(0));
        BranchQuarry never = new BranchQuarry();
        never.addColumn(-1, 0, 3, true);
        never.addRow('g', 4, 1, 0, 0, 0);
        never.begin('b', 'f');
        IS.same("10: a node without a point is solved", 1, never.solve(41));
        IS.same("10: no point", 'i', never.state(0));
        IS.same("10: and no conflict at the node 0", 0, never.cuts());
    }

    private static void orders() {
        // Worked by hand. The node 1 has the value -14 and the node 2 has -12, so 'b' goes on with
        // 3 and 4 under 1 (after 2, whose bound is that of the node 0), 'd' with 4 and 3 under 2.
        BranchQuarry least = Programs.two('b', 'f');
        least.solve(4);
        IS.same("10: least bound first", "pppsooo", Checks.states(least));
        least.solve(41);
        IS.same("10: all by least bound", "pppspbipisi", Checks.states(least));
        BranchQuarry last = Programs.two('d', 'f');
        last.solve(2);
        IS.same("10: greatest number first", "popoo", Checks.states(last));
        last.solve(2);
        IS.same("10: its children next", "poppioo", Checks.states(last));
        last.solve(41);
        IS.same("10: all by greatest number", "pppp" + "iss" + "bpp" + "isi", Checks.states(last));
    }

    private static void rules() {
        BranchQuarry first = Programs.two('b', 'f');
        first.solve(1);
        IS.same("10: the lowest number", "1 2", first.upperAt(1, 0) + " " + first.lowerAt(2, 0));
        BranchQuarry half = Programs.two('b', 'h');
        half.solve(1);
        IS.same("10: 21/8 is nearer to the middle than 5/4", "2 3", half.upperAt(1, 1) + " " + half.lowerAt(2, 1));
        IS.same("10: the other column stays", "9 0", half.upperAt(1, 0) + " " + half.lowerAt(2, 0));
        BranchQuarry learnt = Programs.two('b', 'l');
        learnt.solve(1);
        IS.same("10: all scores 1, so the lowest number", 1, learnt.upperAt(1, 0));

        IS.same("10: 3/5 of 1/5, 3/5, 1/4 and 9", "9 0 9 9", halves(1, 5, 3, 5, 1, 4, 9, 1));
        IS.same("10: 5/3 of 1/5, 9/5, 5/3 and 7/4", "9 9 1 9", halves(1, 5, 9, 5, 5, 3, 7, 4));
        IS.same("10: -5/2 of -1/5, -5/2, -9/4 and 1/5", "9 -3 9 9", halves(-1, 5, -5, 2, -9, 4, 1, 5));
        // 1/3 and 2/3 are as far from the middle; 1/3 is that of column 1.
        BranchQuarry tie = new BranchQuarry();
        tie.addColumn(-1, 0, 1, true);
        tie.addColumn(-1, 0, 1, true);
        tie.addRow('l', 2, 3, 0, 0, 0);
        tie.addRow('l', 1, 0, 3, 0, 0);
        tie.begin('b', 'h');
        tie.solve(1);
        IS.same("10: of several the lowest number", 0, tie.upperAt(1, 0));

        // In the node 3, x = 23/11 and z = 8/11; x has learnt the gain 0 up, z has learnt nothing.
        BranchQuarry scored = new BranchQuarry();
        scored.addColumn(-5, 0, 9, true);
        scored.addColumn(-8, 0, 7, true);
        scored.addColumn(-4, 0, 6, true);
        scored.addRow('l', 7, 3, 3, 1, 0);
        scored.addRow('l', 5, 1, 5, 4, 0);
        scored.begin('d', 'l');
        scored.solve(4);
        IS.same("10: column 0 has learnt", "1 0", scored.gain(0, false) + " " + scored.gain(0, true));
        IS.same("10: the node 3 is branched", 3, scored.parent(6));
        IS.same("10: on column 2, of the greater score", "9 0 1",
                scored.upperAt(5, 0) + " " + scored.upperAt(5, 2) + " " + scored.lowerAt(6, 2));

        BranchQuarry below = new BranchQuarry();
        below.addColumn(-1, -9, -1, true);
        below.addRow('l', -7, 2, 0, 0, 0);
        below.begin('b', 'f');
        below.solve(1);
        IS.same("10: -7/2 rounded down", "-4 -3", below.upperAt(1, 0) + " " + below.lowerAt(2, 0));
        BranchQuarry mixed = new BranchQuarry();
        mixed.addColumn(-1, 0, 9, false);
        mixed.addColumn(-1, 0, 9, true);
        mixed.addRow('l', 3, 2, 0, 0, 0);
        mixed.addRow('l', 5, 0, 2, 0, 0);
        mixed.begin('b', 'f');
        mixed.solve(1);
        IS.same("10: only whole columns are branched", "9 2", mixed.upperAt(1, 0) + " " + mixed.upperAt(1, 1));
    }

    /** The upper bounds of the node 1, for four columns at most top / bottom each, by the rule 'h'. */
    private static String halves(int... tops) {
        BranchQuarry q = new BranchQuarry();
        for (int j = 0; j < 4; j++) {
            q.addColumn(-1, -9, 9, true);
        }
        for (int j = 0; j < 4; j++) {
            int[] co = new int[4];
            co[j] = tops[2 * j + 1];
            q.addRow('l', tops[2 * j], co[0], co[1], co[2], co[3]);
        }
        q.begin('b', 'h');
        q.solve(1);
        return q.upperAt(1, 0) + " " + q.upperAt(1, 1) + " " + q.upperAt(1, 2) + " " + q.upperAt(1, 3);
    }

    private static void closedByBound() {
        BranchQuarry q = Programs.two('b', 'f');
        q.offer(0, 3, 0, 0);
        q.solve(41);
        IS.same("10: with the best one from the start", 'b', q.state(2));
        IS.same("10: a value that is just its cost", Checks.fraction(-12, 1), q.value(2));
        BranchQuarry equal = new BranchQuarry();
        equal.addColumn(-1, 0, 3, true);
        equal.begin('b', 'f');
        equal.offer(3, 0, 0, 0);
        equal.solve(1);
        IS.same("10: closed by its bound, though a solution", 'b', equal.state(0));
        BranchQuarry worse = new BranchQuarry();
        worse.addColumn(-1, 0, 3, true);
        worse.begin('b', 'f');
        worse.offer(2, 0, 0, 0);
        worse.solve(1);
        IS.same("10: a better solution", 's', worse.state(0));
        IS.same("10: is the best one", Checks.fraction(3, 1), worse.solution(0));
    }

    /** Each branching leaves one open node and one without a point. */
    private static void tooManyNodes() {
        BranchQuarry q = Programs.never();
        q.begin('b', 'f');
        q.cutByRounding(0, 0, 5);
        IS.same("10: solving stops", 39, q.solve(41));
        IS.same("10: at 41 nodes", 41, q.nodes());
        IS.same("10: the next one stays open", 'o', q.state(39));
        IS.same("10: and so does the one behind it", 'o', q.state(40));
        String before = Checks.picture(q);
        IS.same("10: it stops again", 0, q.solve(41));
        IS.same("10: as if it had not been looked at", before, Checks.picture(q));
        q.begin('d', 'f');
        IS.same("10: by greatest number, 20 branched and 10 without a point", 30, q.solve(41));
        IS.same("10: 41 nodes again", 41, q.nodes());
        IS.same("10: the others are open", 11, q.open());
        String last = Checks.picture(q);
        IS.same("10: the last one cannot be branched", 0, q.solve(1));
        IS.same("10: nothing is learnt of it", last, Checks.picture(q));
    }

    private static void leastPoints() {
        BranchQuarry ties = new BranchQuarry();
        ties.addColumn(0, -3, 5, false);
        ties.addColumn(0, -3, 5, false);
        ties.addColumn(-2, -3, 5, false);
        ties.addRow('g', 1, 1, 1, 0, 0);
        ties.addRow('l', 4, 1, 0, 1, 0);
        ties.begin('b', 'f');
        ties.solve(1);
        IS.same("18: least column 0 of the cheapest", Checks.fraction(-3, 1), ties.point(0, 0));
        IS.same("18: then least column 1", Checks.fraction(4, 1), ties.point(0, 1));
        IS.same("18: the cost comes first", Checks.fraction(5, 1), ties.point(0, 2));
        BranchQuarry flat = new BranchQuarry();
        flat.addColumn(-1, 0, 4, false);
        flat.addColumn(-1, 0, 4, false);
        flat.addRow('l', 5, 1, 1, 0, 0);
        flat.begin('b', 'f');
        flat.solve(1);
        IS.same("18: of an edge, the end with least column 0", Checks.fraction(1, 1), flat.point(0, 0));
        IS.same("17: its value", Checks.fraction(-5, 1), flat.value(0));
        // The four rows meet in one point; its determinant is 7235, which is 5 times 1447.
        BranchQuarry meeting = new BranchQuarry();
        for (int cost : new int[] {9, -8, 7, -5}) {
            meeting.addColumn(cost, -9, 9, false);
        }
        meeting.addRow('e', 10, -4, 5, 5, -5);
        meeting.addRow('e', 7, -5, 5, -5, 5);
        meeting.addRow('e', 11, 5, 4, 3, 4);
        meeting.addRow('e', 22, 5, 5, -5, -4);
        meeting.begin('b', 'f');
        meeting.solve(1);
        IS.same("17: a great bottom", Checks.fraction(-84944, 7235), meeting.value(0));
        IS.same("18: in lowest terms", Checks.fraction(1347, 1447), meeting.point(0, 0));
        IS.same("18: a great bottom", Checks.fraction(18361, 7235), meeting.point(0, 1));
        IS.same("18: less than 0", Checks.fraction(-3078, 7235), meeting.point(0, 2));
        IS.same("18: less than 0, in lowest terms", Checks.fraction(-915, 1447), meeting.point(0, 3));
    }

    private static void counts() {
        BranchQuarry q = new BranchQuarry();
        IS.same("11: without a tree", 0, q.nodes());
        IS.same("12: without a tree", 0, q.open());
        BranchQuarry t = Programs.two('b', 'f');
        IS.same("11: the node 0", 1, t.nodes());
        IS.same("12: it is open", 1, t.open());
        t.solve(1);
        IS.same("11: branched", 3, t.nodes());
        IS.same("12: its children are open", 2, t.open());
        t.solve(3);
        IS.same("11: with solved ones", 7, t.nodes());
        IS.same("12: without solved ones", 3, t.open());
        t.solve(41);
        IS.same("11: at the end", 11, t.nodes());
        IS.same("12: none is open", 0, t.open());
    }

    private static void statesAndParents() {
        BranchQuarry q = new BranchQuarry();
        IS.fails("13: no tree", q, NONE, () -> q.state(0));
        IS.fails("14: no tree", q, NONE, () -> q.parent(0));
        BranchQuarry t = Programs.two('b', 'f');
        IS.same("13: open", 'o', t.state(0));
        IS.fails("14: the node 0", t, NOTHING, () -> t.parent(0));
        t.solve(41);
        IS.same("13: all kinds", "p s b i", t.state(0) + " " + t.state(3) + " " + t.state(5) + " " + t.state(6));
        int[] parents = {0, 0, 1, 1, 2, 2, 4, 4, 7, 7};
        for (int k = 1; k < 11; k++) {
            IS.same("14: of node " + k, parents[k - 1], t.parent(k));
        }
        IS.fails("13: node -1", t, NONE, () -> t.state(-1));
        IS.fails("13: node 11", t, NONE, () -> t.state(11));
        IS.fails("13: greatest int", t, NONE, () -> t.state(Integer.MAX_VALUE));
        IS.fails("14: node -1", t, NONE, () -> t.parent(-1));
        IS.fails("14: node 11", t, NONE, () -> t.parent(11));
        t.begin('b', 'f');
        IS.fails("13: a node of the tree ahead", t, NONE, () -> t.state(1));
    }

    private static void bounds() {
        BranchQuarry t = Programs.two('b', 'f');
        t.solve(41);
        IS.same("15: down keeps the lower bound", 0, t.lowerAt(1, 0));
        IS.same("16: down", 1, t.upperAt(1, 0));
        IS.same("15: up", 2, t.lowerAt(2, 0));
        IS.same("16: up keeps the upper bound", 9, t.upperAt(2, 0));
        IS.same("15: bounds are handed on", "0 3", t.lowerAt(9, 0) + " " + t.lowerAt(9, 1));
        IS.same("16: bounds are handed on", "0 3", t.upperAt(9, 0) + " " + t.upperAt(9, 1));
        for (int[] at : new int[][] {{-1, 0}, {11, 0}, {0, -1}, {0, 2}, {0, 4}, {-1, -1}}) {
            IS.fails("15: none", t, NONE, () -> t.lowerAt(at[0], at[1]));
            IS.fails("16: none", t, NONE, () -> t.upperAt(at[0], at[1]));
        }
        BranchQuarry none = new BranchQuarry();
        none.addColumn(0, 0, 1, true);
        IS.fails("15: no tree", none, NONE, () -> none.lowerAt(0, 0));
        IS.fails("16: no tree", none, NONE, () -> none.upperAt(0, 0));
    }

    private static void valuesAndPoints() {
        BranchQuarry t = Programs.two('b', 'f');
        IS.fails("17: open", t, NOTHING, () -> t.value(0));
        IS.fails("18: open", t, NOTHING, () -> t.point(0, 0));
        t.solve(41);
        IS.same("17: branched", Checks.fraction(-57, 4), t.value(0));
        IS.same("18: branched", Checks.fraction(5, 4), t.point(0, 0));
        IS.same("18: in lowest terms", Checks.fraction(21, 8), t.point(0, 1));
        IS.same("17: closed by its bound", Checks.fraction(-11, 1), t.value(5));
        IS.same("18: closed by its bound", Checks.fraction(7, 3), t.point(5, 0));
        IS.same("17: a solution", Checks.fraction(-12, 1), t.value(9));
        IS.same("18: a solution", Checks.fraction(0, 1), t.point(9, 0));
        IS.fails("17: no point", t, NOTHING, () -> t.value(6));
        IS.fails("18: no point", t, NOTHING, () -> t.point(6, 0));
        IS.fails("17: node -1", t, NONE, () -> t.value(-1));
        IS.fails("17: node 11", t, NONE, () -> t.value(11));
        IS.fails("18: node 11", t, NONE, () -> t.point(11, 0));
        IS.fails("18: node -1", t, NONE, () -> t.point(-1, 0));
        IS.fails("18: column -1", t, NONE, () -> t.point(0, -1));
        IS.fails("18: no column, and no point", t, NONE, () -> t.point(6, 2));
        BranchQuarry minus = new BranchQuarry();
        minus.addColumn(3, -9, 9, true);
        minus.addRow('g', -7, 2, 0, 0, 0);
        minus.begin('b', 'f');
        minus.solve(1);
        IS.same("17: less than 0", -21 * 100000L + 2, minus.value(0));
        IS.same("18: less than 0", -7 * 100000L + 2, minus.point(0, 0));
    }

    private static void bound() {
        BranchQuarry none = new BranchQuarry();
        IS.fails("19: no tree", none, NOTHING, none::bound);
        BranchQuarry t = Programs.two('b', 'f');
        IS.fails("19: the node 0 is open", t, NOTHING, t::bound);
        t.offer(0, 0, 0, 0);
        IS.fails("19: the node 0 is open, with a best one", t, NOTHING, t::bound);
        t.solve(1);
        IS.same("19: the value of the node 0", Checks.fraction(-57, 4), t.bound());
        t.solve(2);
        IS.same("19: the least one of -14 and -12", Checks.fraction(-14, 1), t.bound());
        t.solve(41);
        IS.same("19: the best one at the end", Checks.fraction(-12, 1), t.bound());
        // Nodes 6 and 5 are solutions by now, and the node 1 is open.
        BranchQuarry met = Programs.two('d', 'f');
        met.solve(6);
        IS.same("19: open nodes and a best one", Checks.fraction(-57, 4), met.bound());
        BranchQuarry less = Programs.two('b', 'f');
        less.solve(3);
        less.offer(0, 3, 0, 0);
        less.solve(6);
        IS.same("19: two open nodes of the bound -12", "2 -1199999", less.open() + " " + less.bound());
        BranchQuarry never = new BranchQuarry();
        never.addColumn(-1, 0, 3, true);
        never.addRow('g', 4, 1, 0, 0, 0);
        never.begin('b', 'f');
        never.solve(1);
        IS.fails("19: nothing open, no solution", never, NOTHING, never::bound);
    }
}
