import java.util.NoSuchElementException;

/** Promises 20 to 24. */
public final class SolutionsTest {
    private static final Checks IS = new Checks();
    private static final Class<IndexOutOfBoundsException> NONE = IndexOutOfBoundsException.class;
    private static final Class<NoSuchElementException> NOTHING = NoSuchElementException.class;

    public static void main(String[] args) {
        offer();
        offerWrong();
        round();
        roundMoreKinds();
        bestAndSolution();
        bestByAll();
        bestByAllRefuses();
        IS.end("SolutionsTest");
    }

    private static void offer() {
        BranchQuarry q = Programs.two();
        IS.fails("20: no tree", q, IllegalStateException.class, () -> q.offer(0, 0, 0, 0));
        q.begin('b', 'f');
        IS.same("20: the first one", true, q.offer(1, 1, 0, 0));
        IS.same("20: its cost", Checks.fraction(-7, 1), q.best());
        IS.same("20: the same one again", false, q.offer(1, 1, 0, 0));
        IS.same("20: a worse one", false, q.offer(0, 0, 0, 0));
        IS.same("20: columns that are not there", true, q.offer(1, 2, Integer.MAX_VALUE, Integer.MIN_VALUE));
        IS.same("20: do not count", Checks.fraction(-11, 1), q.best());
        IS.same("20: a better one with equality", true, q.offer(0, 3, 9, 9));
        IS.same("20: is the best one", Checks.fraction(3, 1), q.solution(1));
        IS.same("20: no node is solved by it", "o", Checks.states(q));
        q.solve(41);
        IS.same("20: the best one after it", Checks.fraction(-12, 1), q.best());
        BranchQuarry four = new BranchQuarry();
        for (int cost : new int[] {1, -2, 3, -4}) {
            four.addColumn(cost, 0, 9, true);
        }
        four.addRow('e', 26, 1, 2, 3, 4);
        four.begin('b', 'f');
        IS.same("20: four columns", true, four.offer(2, 3, 2, 3));
        IS.same("20: all of them count", Checks.fraction(-10, 1), four.best());
        IS.same("20: each in its place", "200001 300001 200001 300001", four.solution(0) + " "
                + four.solution(1) + " " + four.solution(2) + " " + four.solution(3));
        BranchQuarry loose = new BranchQuarry();
        loose.addColumn(2, -5, 5, false);
        loose.addRow('g', -3, 1, 0, 0, 0);
        loose.begin('d', 'f');
        IS.same("20: a whole number for any column", true, loose.offer(-3, 0, 0, 0));
        IS.same("20: less than 0", -6 * 100000L + 1, loose.best());
    }

    private static void offerWrong() {
        BranchQuarry q = new BranchQuarry();
        q.addColumn(1, 2, 4, true);
        q.addColumn(1, -9, 9, true);
        q.addRow('e', 3, 1, 1, 0, 0);
        q.addRow('g', -1, 0, 1, 0, 0);
        q.tighten();
        q.begin('b', 'f');
        IS.same("20: under a lower bound", false, q.offer(1, 2, 0, 0));
        IS.same("20: over an upper bound", false, q.offer(5, -2, 0, 0));
        IS.same("20: a row 'e' over", false, q.offer(3, 1, 0, 0));
        IS.same("20: a row 'e' under", false, q.offer(3, -1, 0, 0));
        IS.same("20: greatest int", false, q.offer(Integer.MAX_VALUE, Integer.MIN_VALUE, 0, 0));
        IS.same("20: not of whole columns to another sum", false, q.offer(Integer.MIN_VALUE, 3, 0, 0));
        IS.fails("20: none of these", q, NOTHING, q::best);
        IS.same("20: a solution", true, q.offer(4, -1, 0, 0));
        BranchQuarry told = new BranchQuarry();
        told.addColumn(-1, 0, 9, true);
        told.addRow('l', 6, 1, 0, 0, 0);
        told.tighten();
        told.begin('b', 'f');
        IS.same("20: a row 'l' over", false, told.offer(7, 0, 0, 0));
        IS.same("20: a row 'l' equal", true, told.offer(6, 0, 0, 0));
        // A cut takes whole points away without making them no solutions.
        BranchQuarry cut = new BranchQuarry();
        cut.addColumn(-1, 0, 1, true);
        cut.addColumn(-1, 0, 1, true);
        cut.begin('b', 'f');
        cut.cutByLikeness(0, 1);
        IS.same("20: cuts do not count", true, cut.offer(0, 1, 0, 0));
    }

    private static void round() {
        BranchQuarry q = Programs.two();
        IS.fails("21: no tree", q, NONE, () -> q.round(0));
        q.begin('b', 'f');
        IS.fails("21: open", q, NOTHING, () -> q.round(0));
        q.solve(2);
        IS.same("21: (5/4, 21/8) to (1, 3) breaks a row", false, q.round(0));
        IS.fails("21: so there is none", q, NOTHING, q::best);
        IS.same("21: (1, 11/4) too", false, q.round(1));
        IS.fails("21: node -1", q, NONE, () -> q.round(-1));
        IS.fails("21: node 5", q, NONE, () -> q.round(5));
        IS.fails("21: a node that is open", q, NOTHING, () -> q.round(4));
        q.solve(41);
        IS.same("21: the best one itself is not better", false, q.round(9));
        IS.fails("21: no point", q, NOTHING, () -> q.round(6));
    }

    private static void roundMoreKinds() {
        BranchQuarry up = new BranchQuarry();
        up.addColumn(-1, 0, 9, true);
        up.addColumn(-4, 0, 9, false);
        up.addColumn(-1, 0, 9, true);
        up.addRow('l', 7, 0, 3, 0, 0);
        up.addRow('l', 5, 4, 0, -4, 0);
        up.addRow('l', 7, 0, 0, 5, 0);
        up.addRow('l', 12, 5, 0, 0, 0);
        up.begin('b', 'f');
        up.solve(1);
        IS.same("21: x", Checks.fraction(12, 5), up.point(0, 0));
        IS.same("21: y", Checks.fraction(7, 3), up.point(0, 1));
        IS.same("21: z", Checks.fraction(7, 5), up.point(0, 2));
        IS.same("21: to a solution", true, up.round(0));
        IS.same("21: 12/5 to 2", Checks.fraction(2, 1), up.solution(0));
        IS.same("21: a column that is not whole stays", Checks.fraction(7, 3), up.solution(1));
        IS.same("21: 7/5 to 1", Checks.fraction(1, 1), up.solution(2));
        IS.same("21: the cost", Checks.fraction(-37, 3), up.best());
        IS.same("21: the same one again", false, up.round(0));
        IS.same("21: an offer after it", false, up.offer(2, 2, 1, 0));
        up.begin('b', 'f');
        IS.same("20: an offer after a rounding", true, up.offer(2, 2, 1, 0));
        IS.same("20: has whole numbers", Checks.fraction(-11, 1), up.best());
        up.solve(1);
        IS.same("21: better than that", true, up.round(0));
        up.solve(41);
        IS.same("21: it is the best one of all", Checks.fraction(-37, 3), up.best());

        for (int[] at : new int[][] {{5, 3}, {-5, -2}, {-1, 0}, {7, 4}}) {
            BranchQuarry middle = new BranchQuarry();
            middle.addColumn(1, -9, 9, true);
            middle.addRow('g', at[0], 2, 0, 0, 0);
            middle.begin('b', 'f');
            middle.solve(1);
            IS.same("21: " + at[0] + "/2 up from the middle", true, middle.round(0));
            IS.same("21: to " + at[1], Checks.fraction(at[1], 1), middle.solution(0));
        }
        // 2x - y <= 1 with y dear: the node 2 has the point (1, 1), though (0, 0) is cheaper.
        BranchQuarry whole = new BranchQuarry();
        whole.addColumn(-1, 0, 9, true);
        whole.addColumn(9, 0, 9, true);
        whole.addRow('l', 1, 2, -1, 0, 0);
        whole.begin('d', 'f');
        whole.solve(2);
        IS.same("21: a point of whole numbers stays as it is", false, whole.round(2));
        IS.same("21: so nothing is better", Checks.fraction(8, 1), whole.best());
        BranchQuarry over = new BranchQuarry();
        over.addColumn(-1, 0, 9, true);
        over.addRow('l', 5, 3, 0, 0, 0);
        over.begin('b', 'f');
        over.solve(1);
        IS.same("21: 5/3 to 2 breaks the row", false, over.round(0));
        over.addRow('g', 0, 1, 0, 0, 0);
        IS.same("21: a row that keeps the tree", 3, over.nodes());
    }

    private static void bestAndSolution() {
        BranchQuarry q = Programs.two();
        IS.fails("22: no tree", q, NOTHING, q::best);
        IS.fails("23: no tree", q, NOTHING, () -> q.solution(0));
        q.begin('b', 'f');
        IS.fails("22: none yet", q, NOTHING, q::best);
        IS.fails("23: none yet", q, NOTHING, () -> q.solution(1));
        IS.fails("23: no column, and none yet", q, NONE, () -> q.solution(2));
        q.solve(41);
        IS.same("22: of the tree", Checks.fraction(-12, 1), q.best());
        IS.same("23: x", Checks.fraction(0, 1), q.solution(0));
        IS.same("23: y", Checks.fraction(3, 1), q.solution(1));
        IS.fails("23: column -1", q, NONE, () -> q.solution(-1));
        IS.fails("23: column 2", q, NONE, () -> q.solution(2));
        IS.fails("23: column 4", q, NONE, () -> q.solution(4));
        BranchQuarry mixed = new BranchQuarry();
        mixed.addColumn(-2, 0, 9, true);
        mixed.addColumn(-3, 0, 9, false);
        mixed.addRow('l', 10, 2, 4, 0, 0);
        mixed.addRow('l', 7, 3, 0, 0, 0);
        mixed.begin('b', 'f');
        mixed.solve(41);
        IS.same("22: a fraction", Checks.fraction(-17, 2), mixed.best());
        IS.same("23: whole", Checks.fraction(2, 1), mixed.solution(0));
        IS.same("23: in lowest terms", Checks.fraction(3, 2), mixed.solution(1));
    }

    private static void bestByAll() {
        BranchQuarry q = Programs.two();
        IS.same("24: without a tree", -12, q.bestByAll());
        q.begin('b', 'f');
        q.solve(41);
        IS.same("24: as the tree finds it", Checks.fraction(q.bestByAll(), 1), q.best());
        q.offer(99, 99, 99, 99);
        IS.same("24: after an offer", -12, q.bestByAll());
        q.round(5);
        IS.same("24: after a rounding", -12, q.bestByAll());
        BranchQuarry four = new BranchQuarry();
        for (int cost : new int[] {9, -9, 9, -9}) {
            four.addColumn(cost, -9, -2, true);
        }
        IS.same("24: 4096 points", -9 * 9 * 2 + 9 * 2 * 2, four.bestByAll());
        four.addRow('e', -20, 1, 1, 1, 1);
        four.addRow('g', -7, 1, 0, 0, 0);
        IS.same("24: with rows", 9 * -7 + 9 * -9 + 18 + 18, four.bestByAll());
        BranchQuarry told = new BranchQuarry();
        told.addColumn(5, -4, 9, true);
        told.addRow('g', -3, 2, 0, 0, 0);
        told.tighten();
        IS.same("24: a least cost under 0", -5, told.bestByAll());
        IS.same("24: the empty point", 0, new BranchQuarry().bestByAll());
        BranchQuarry none = new BranchQuarry();
        none.addRow('l', -1, 0, 0, 0, 0);
        IS.fails("24: the empty point breaks a row", none, NOTHING, none::bestByAll);
    }

    private static BranchQuarry sized(int... uppers) {
        BranchQuarry q = new BranchQuarry();
        for (int upper : uppers) {
            q.addColumn(1, -9, upper, true);
        }
        return q;
    }

    private static void bestByAllRefuses() {
        Class<UnsupportedOperationException> no = UnsupportedOperationException.class;
        BranchQuarry just = sized(9, 9, 6);
        IS.same("24: 19 times 19 times 16 points", -27, just.bestByAll());
        BranchQuarry many = sized(9, 9, 7);
        IS.fails("24: 19 times 19 times 17 points", many, no, many::bestByAll);
        BranchQuarry all = sized(9, 9, 9, 9);
        IS.fails("24: all points there can be", all, no, all::bestByAll);
        // 6000 is 15 times 10 times 10 times 4.
        BranchQuarry edge = sized(5, 0, 0, -6);
        IS.same("24: 6000 points", -36, edge.bestByAll());
        edge.addRow('g', 99, 0, 0, 0, 1);
        IS.fails("24: no solution among them", edge, NOTHING, edge::bestByAll);
        many.addRow('l', -9, 1, 0, 0, 0);
        many.tighten();
        IS.fails("24: the bounds as they were told", many, no, many::bestByAll);
        BranchQuarry loose = new BranchQuarry();
        loose.addColumn(1, 0, 1, true);
        loose.addColumn(1, 0, 1, false);
        loose.addRow('l', -1, 1, 0, 0, 0);
        IS.fails("24: a column that is not whole comes first", loose, no, loose::bestByAll);
        BranchQuarry last = sized(9, 9, 9, 9);
        last.addRow('l', -99, 1, 0, 0, 0);
        IS.fails("24: too many points come first", last, no, last::bestByAll);
        BranchQuarry corner = new BranchQuarry();
        corner.addColumn(-1, 0, 3, true);
        corner.addColumn(-1, 0, 3, true);
        IS.same("24: the last point is tried", -6, corner.bestByAll());
        corner.addRow('e', 5, 2, 2, 0, 0);
        IS.fails("24: no solution", corner, NOTHING, corner::bestByAll);
    }
}
