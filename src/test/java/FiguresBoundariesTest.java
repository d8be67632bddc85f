/** The boundary cases that the document names for the promises 34 and 35, each with its sentence. */
public final class FiguresBoundariesTest {
    private static final Checks IS = new Checks();
    private static final Class<ArithmeticException> NONE = ArithmeticException.class;

    public static void main(String[] args) {
        withoutABestSolution();
        withoutABound();
        overWholeCosts();
        overCostsAroundOne();
        roundedAsFloats();
        depthOrNone();
        depthsOfTrees();
        IS.end("FiguresBoundariesTest");
    }

    // Promise 34.

    /** "If there is no best solution." */
    private static void withoutABestSolution() {
        BranchQuarry q = Programs.two();
        IS.fails("34: no tree", q, NONE, q::gap);
        q.begin('b', 'f');
        IS.fails("34: neither", q, NONE, q::gap);
        q.solve(1);
        IS.fails("34: a bound, but no best solution", q, NONE, q::gap);
        q.offer(9, 9, 0, 0);
        IS.fails("34: nor one that is not kept", q, NONE, q::gap);
        q.offer(0, 0, 0, 0);
        IS.same("34: both", 14.25f, q.gap());
        q.addRow('g', 1, 1, 0, 0, 0);
        IS.fails("34: the best solution is lost", q, NONE, q::gap);
    }

    /** "Or no bound." */
    private static void withoutABound() {
        BranchQuarry q = Programs.two('b', 'f');
        q.offer(0, 0, 0, 0);
        IS.fails("34: the node 0 is open", q, NONE, q::gap);
        q.solve(1);
        IS.same("34: it is not", 14.25f, q.gap());
        BranchQuarry none = Programs.columns(0, 1, 0);
        none.addRow('e', 1, 2, 0, 0, 0);
        none.begin('b', 'f');
        none.solve(41);
        IS.fails("34: no open nodes and no best solution", none, NONE, none::gap);
        BranchQuarry anew = Programs.columns(0, 5, -1, -1);
        anew.begin('b', 'f');
        anew.cutByLikeness(0, 1);
        anew.solve(1);
        IS.same("34: the best solution is the bound", 0f, anew.gap());
        anew.addRow('l', 5, 1, 0, 0, 0);
        IS.same("22: begun anew with the best solution", Checks.fraction(-10, 1), anew.best());
        IS.fails("34: but without a bound", anew, NONE, anew::gap);
    }

    /** "Divided by the greater one of 1 and the cost without its sign": costs from -9 to 9. */
    private static void overWholeCosts() {
        for (int bottom = 2; bottom <= 5; bottom++) {
            for (int top = -9 * bottom + 1; top < 9 * bottom; top++) {
                if (top % bottom == 0) {
                    continue;
                }
                for (int cost = Math.floorDiv(top, bottom) + 1; cost <= 9; cost++) {
                    BranchQuarry q = Programs.columns(-9, 9, 1);
                    q.addRow('g', top, bottom, 0, 0, 0);
                    q.begin('b', 'f');
                    q.solve(1);
                    q.offer(cost, 0, 0, 0);
                    float difference = (float) cost - (float) top / (float) bottom;
                    float divisor = cost > 1 ? cost : cost < -1 ? -cost : 1f;
                    IS.same("34: " + cost + " and " + top + "/" + bottom, difference / divisor, q.gap());
                }
            }
        }
    }

    /** Costs that are fractions just under and over 1 and -1. */
    private static void overCostsAroundOne() {
        for (int top = -9; top <= 9; top++) {
            // y is -1/2 in the node 0 and 0 behind it, so the bound is 1/2 under the best solution.
            BranchQuarry q = new BranchQuarry();
            q.addColumn(1, -9, 9, false);
            q.addColumn(1, -9, 9, true);
            q.addRow('e', top, 5, 0, 0, 0);
            q.addRow('g', -1, 0, 2, 0, 0);
            q.begin('b', 'f');
            q.solve(1);
            IS.same("21: " + top + "/5", true, q.round(0));
            float cost = (float) top / 5f;
            float bound = (float) (2 * top - 5) / 10f;
            float size = cost < 0 ? -cost : cost;
            IS.same("34: " + top + "/5 and 1/2 less", (cost - bound) / (size > 1f ? size : 1f), q.gap());
        }
    }

    /** "Converted to float first, each as its top divided by its bottom, both converted to float". */
    private static void roundedAsFloats() {
        // 9/7 is no column's value with coefficients up to 5, but 5x + 2y = 9 and x = y give it.
        BranchQuarry q = new BranchQuarry();
        q.addColumn(9, -9, 9, false);
        q.addColumn(-1, -9, 9, false);
        q.addColumn(1, 0, 9, true);
        q.addRow('e', 9, 5, 2, 0, 0);
        q.addRow('e', 0, 1, -1, 0, 0);
        q.addRow('g', 1, 0, 0, 3, 0);
        q.begin('b', 'f');
        q.solve(1);
        IS.same("17: 72/7 and 1/3", Checks.fraction(223, 21), q.value(0));
        q.solve(41);
        IS.same("22: 72/7 and 1", Checks.fraction(79, 7), q.best());
        IS.same("34: both meet", 0f, q.gap());
        BranchQuarry up = new BranchQuarry();
        up.addColumn(9, -9, 9, false);
        up.addColumn(-1, -9, 9, false);
        up.addColumn(1, 0, 9, true);
        up.addRow('e', 9, 5, 2, 0, 0);
        up.addRow('e', 0, 1, -1, 0, 0);
        up.addRow('g', 2, 0, 0, 3, 0);
        up.begin('b', 'f');
        up.solve(1);
        IS.same("17: 72/7 and 2/3", Checks.fraction(230, 21), up.value(0));
        IS.same("21: up to 1", true, up.round(0));
        float cost = 79f / 7f;
        float gap = (cost - 230f / 21f) / cost;
        IS.same("34: by floats", gap, up.gap());
        double exact = (79.0 / 7.0 - 230.0 / 21.0) / (79.0 / 7.0);
        IS.same("34: and not by doubles", false, (float) exact == gap);
    }

    // Promise 35.

    /** "If there is no tree." */
    private static void depthOrNone() {
        BranchQuarry q = new BranchQuarry();
        IS.fails("35: no columns", q, NONE, q::meanDepth);
        q.addColumn(0, 0, 1, true);
        IS.fails("35: no tree", q, NONE, q::meanDepth);
        q.begin('b', 'f');
        IS.same("35: the node 0 alone", 0.0, q.meanDepth());
        q.solve(1);
        IS.same("35: a solved node 0 alone", 0.0, q.meanDepth());
    }

    /** "The sum over all nodes of the numbers of nodes above them, divided by the number of nodes". */
    private static void depthsOfTrees() {
        for (char order : new char[] {'b', 'd'}) {
            BranchQuarry q = Programs.never();
            q.begin(order, 'f');
            int solved = 1;
            while (solved > 0) {
                int sum = 0;
                for (int k = 0; k < q.nodes(); k++) {
                    for (int above = k; above > 0; above = q.parent(above)) {
                        sum++;
                    }
                }
                IS.same("35: " + sum + " over " + q.nodes(), (double) sum / (double) q.nodes(), q.meanDepth());
                solved = q.solve(1);
            }
            IS.same("35: one branch after the other, 41 nodes", 420.0 / 41.0, q.meanDepth());
        }
        BranchQuarry wide = Programs.columns(-9, 9, 0, 0, 0);
        wide.addRow('e', 1, 2, 2, 2, 0);
        wide.begin('b', 'f');
        wide.solve(1);
        IS.same("35: one level", 2.0 / 3.0, wide.meanDepth());
        wide.solve(1);
        IS.same("35: one of two nodes branched", 6.0 / 5.0, wide.meanDepth());
        wide.solve(1);
        IS.same("35: both", 10.0 / 7.0, wide.meanDepth());
        wide.addRow('l', -1, 0, 0, 0, 0);
        wide.solve(41);
        IS.same("35: nodes without points count as well", 10.0 / 7.0, wide.meanDepth());
    }
}
