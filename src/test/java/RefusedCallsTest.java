import java.util.NoSuchElementException;

/**
 * "A method that throws an exception changes nothing. If several exceptions apply, the one that is
 * documented first is thrown": for each promise every two exceptions that can apply at once.
 */
public final class RefusedCallsTest {
    private static final Checks IS = new Checks();
    private static final Class<IllegalArgumentException> WRONG = IllegalArgumentException.class;
    private static final Class<IllegalStateException> STATE = IllegalStateException.class;
    private static final Class<IndexOutOfBoundsException> NONE = IndexOutOfBoundsException.class;
    private static final Class<NoSuchElementException> NOTHING = NoSuchElementException.class;
    private static final Class<UnsupportedOperationException> NO = UnsupportedOperationException.class;

    public static void main(String[] args) {
        addColumn();
        addRow();
        tighten();
        begin();
        solve();
        looksAtNodes();
        solution();
        bestByAll();
        cutByRounding();
        cutByCover();
        cutByLikeness();
        gain();
        nothingIsChanged();
        IS.end("RefusedCallsTest");
    }

    /** 16 cuts of the row 0. */
    private static void fill(BranchQuarry q) {
        for (int k = q.cuts(); k < 16; k++) {
            IS.same("25: a cut", k, q.cutByRounding(0, 0, 2));
        }
    }

    private static void addColumn() {
        BranchQuarry four = Programs.columns(0, 1, 0, 0, 0, 0);
        IS.fails("2: the range before 4 columns", four, WRONG, () -> four.addColumn(10, 0, 1, true));
        IS.fails("2: 4 columns", four, STATE, () -> four.addColumn(9, 0, 1, true));
        BranchQuarry row = Programs.columns(0, 1, 0);
        row.addRow('l', 0, 0, 0, 0, 0);
        IS.fails("2: the range before a row", row, WRONG, () -> row.addColumn(0, -10, 1, true));
        IS.fails("2: a row", row, STATE, () -> row.addColumn(0, -9, 1, true));
        BranchQuarry tree = Programs.columns(0, 1, 0);
        tree.begin('b', 'f');
        IS.fails("2: the range before a tree", tree, WRONG, () -> tree.addColumn(0, 1, 0, true));
        IS.fails("2: a tree", tree, STATE, () -> tree.addColumn(0, 0, 0, true));
    }

    private static void addRow() {
        BranchQuarry q = Programs.columns(0, 1, 0);
        for (int k = 0; k < 8; k++) {
            q.addRow('l', 0, 0, 0, 0, 0);
        }
        IS.fails("3: the sense before 8 rows", q, WRONG, () -> q.addRow('x', 0, 0, 0, 0, 0));
        IS.fails("3: the side before 8 rows", q, WRONG, () -> q.addRow('l', 100, 0, 0, 0, 0));
        IS.fails("3: a coefficient before 8 rows", q, WRONG, () -> q.addRow('l', 99, 6, 0, 0, 0));
        IS.fails("3: no column before 8 rows", q, WRONG, () -> q.addRow('l', 99, 5, 1, 0, 0));
        IS.fails("3: 8 rows", q, STATE, () -> q.addRow('l', 99, 5, 0, 0, 0));
    }

    private static void tighten() {
        BranchQuarry q = Programs.columns(0, 9, 0);
        q.addRow('l', -1, 1, 0, 0, 0);
        IS.fails("4: no value", q, NO, q::tighten);
        q.begin('b', 'f');
        IS.fails("4: a tree before no value", q, STATE, q::tighten);
    }

    private static void begin() {
        BranchQuarry q = new BranchQuarry();
        IS.fails("9: the order before no columns", q, WRONG, () -> q.begin('f', 'f'));
        IS.fails("9: the rule before no columns", q, WRONG, () -> q.begin('b', 'b'));
        IS.fails("9: no columns", q, STATE, () -> q.begin('b', 'f'));
    }

    private static void solve() {
        BranchQuarry q = Programs.columns(0, 1, 0);
        IS.fails("10: the range before no tree", q, WRONG, () -> q.solve(0));
        IS.fails("10: the range before no tree", q, WRONG, () -> q.solve(42));
        IS.fails("10: no tree", q, STATE, () -> q.solve(41));
    }

    private static void looksAtNodes() {
        BranchQuarry q = Programs.columns(0, 1, 0);
        q.begin('b', 'f');
        IS.fails("18: no column before an open node", q, NONE, () -> q.point(0, 1));
        IS.fails("18: no node", q, NONE, () -> q.point(1, 0));
        IS.fails("18: an open node", q, NOTHING, () -> q.point(0, 0));
        q.addRow('l', -1, 1, 0, 0, 0);
        q.solve(1);
        IS.fails("18: no column before no point", q, NONE, () -> q.point(0, -1));
        IS.fails("18: no point", q, NOTHING, () -> q.point(0, 0));
        IS.fails("14: no node", q, NONE, () -> q.parent(1));
        IS.fails("14: the node 0", q, NOTHING, () -> q.parent(0));
        IS.fails("17: no node", q, NONE, () -> q.value(-1));
        IS.fails("17: no point", q, NOTHING, () -> q.value(0));
        IS.fails("21: no node", q, NONE, () -> q.round(1));
        IS.fails("21: no point", q, NOTHING, () -> q.round(0));
    }

    private static void solution() {
        BranchQuarry q = Programs.columns(0, 1, 0);
        IS.fails("23: no column before no tree", q, NONE, () -> q.solution(1));
        IS.fails("23: no tree", q, NOTHING, () -> q.solution(0));
        q.begin('b', 'f');
        IS.fails("23: no column before no best solution", q, NONE, () -> q.solution(-1));
        IS.fails("23: no best solution", q, NOTHING, () -> q.solution(0));
    }

    private static void bestByAll() {
        BranchQuarry loose = new BranchQuarry();
        loose.addColumn(0, 0, 1, false);
        loose.addRow('l', -1, 0, 0, 0, 0);
        IS.fails("24: a column that is not whole before no solution", loose, NO, loose::bestByAll);
        BranchQuarry many = Programs.columns(-9, 9, 0, 0, 0);
        many.addRow('l', -1, 0, 0, 0, 0);
        IS.fails("24: more than 6000 points before no solution", many, NO, many::bestByAll);
        BranchQuarry whole = Programs.columns(-9, 9, 0, 0);
        whole.addRow('l', -1, 0, 0, 0, 0);
        IS.fails("24: no solution", whole, NOTHING, whole::bestByAll);
    }

    private static void cutByRounding() {
        BranchQuarry q = new BranchQuarry();
        q.addColumn(0, 0, 1, true);
        q.addColumn(0, 0, 1, false);
        q.addRow('l', 1, 1, 0, 0, 0);
        q.addRow('l', 1, 1, 1, 0, 0);
        IS.fails("25: no tree, so no node, before the divisor", q, NONE, () -> q.cutByRounding(0, 0, 1));
        IS.fails("25: no tree, so no node, before the kind", q, NONE, () -> q.cutByRounding(0, 1, 2));
        q.begin('b', 'f');
        IS.fails("25: no node before the divisor", q, NONE, () -> q.cutByRounding(1, 0, 6));
        IS.fails("25: no row before the divisor", q, NONE, () -> q.cutByRounding(0, 2, 6));
        IS.fails("25: no node before the kind", q, NONE, () -> q.cutByRounding(-1, 1, 2));
        IS.fails("25: the divisor before the kind", q, WRONG, () -> q.cutByRounding(0, 1, 6));
        IS.fails("25: the kind", q, NO, () -> q.cutByRounding(0, 1, 5));
        fill(q);
        IS.fails("25: no node before 16 cuts", q, NONE, () -> q.cutByRounding(1, 0, 2));
        IS.fails("25: no row before 16 cuts", q, NONE, () -> q.cutByRounding(0, 2, 2));
        IS.fails("25: the divisor before 16 cuts", q, WRONG, () -> q.cutByRounding(0, 0, 1));
        IS.fails("25: 16 cuts before the kind", q, STATE, () -> q.cutByRounding(0, 1, 2));
        IS.fails("25: no row before all others", q, NONE, () -> q.cutByRounding(0, -1, 1));
        IS.fails("25: the divisor before 16 cuts and the kind", q, WRONG, () -> q.cutByRounding(0, 1, 1));
        IS.fails("25: 16 cuts", q, STATE, () -> q.cutByRounding(0, 0, 2));
    }

    private static void cutByCover() {
        BranchQuarry q = Programs.switches(-1, -1);
        q.addRow('l', 3, 2, 2, 0, 0);
        q.addRow('l', 4, 2, 2, 0, 0);
        IS.fails("26: no row before no tree", q, NONE, () -> q.cutByCover(2));
        IS.fails("26: no tree before no cover", q, NOTHING, () -> q.cutByCover(1));
        q.begin('b', 'f');
        IS.fails("26: no row before an open node 0", q, NONE, () -> q.cutByCover(-1));
        IS.fails("26: an open node 0 before no cover", q, NOTHING, () -> q.cutByCover(1));
        fill(q);
        IS.fails("26: no row before 16 cuts and an open node 0", q, NONE, () -> q.cutByCover(2));
        IS.fails("26: an open node 0 before 16 cuts", q, NOTHING, () -> q.cutByCover(0));
        q.solve(1);
        IS.fails("26: no row before 16 cuts", q, NONE, () -> q.cutByCover(2));
        IS.fails("26: 16 cuts before no cover", q, STATE, () -> q.cutByCover(1));
        IS.fails("26: 16 cuts", q, STATE, () -> q.cutByCover(0));
        q.begin('b', 'f');
        q.solve(1);
        IS.fails("26: no row before no cover", q, NONE, () -> q.cutByCover(2));
        IS.fails("26: no cover", q, NO, () -> q.cutByCover(1));
        BranchQuarry empty = Programs.switches(0);
        empty.addRow('l', -1, 1, 0, 0, 0);
        empty.begin('b', 'f');
        empty.solve(1);
        fill(empty);
        IS.fails("26: no point before 16 cuts and a side less than 0", empty, NOTHING, () -> empty.cutByCover(0));
    }

    private static void cutByLikeness() {
        BranchQuarry q = Programs.switches(0, 0, 1);
        q.addRow('l', 9, 1, 1, 1, 0);
        IS.fails("27: no column before the order and no tree", q, NONE, () -> q.cutByLikeness(3, 0));
        IS.fails("27: no column before no tree", q, NONE, () -> q.cutByLikeness(0, 3));
        IS.fails("27: the order before no tree", q, WRONG, () -> q.cutByLikeness(1, 0));
        IS.fails("27: no tree before not alike", q, STATE, () -> q.cutByLikeness(0, 2));
        IS.fails("27: no tree", q, STATE, () -> q.cutByLikeness(0, 1));
        q.begin('b', 'f');
        IS.fails("27: no column before the order", q, NONE, () -> q.cutByLikeness(0, -1));
        IS.fails("27: the order before not alike", q, WRONG, () -> q.cutByLikeness(2, 0));
        IS.fails("27: the same column", q, WRONG, () -> q.cutByLikeness(2, 2));
        IS.fails("27: not alike", q, NO, () -> q.cutByLikeness(1, 2));
        fill(q);
        IS.fails("27: no column before 16 cuts", q, NONE, () -> q.cutByLikeness(-1, 0));
        IS.fails("27: the order before 16 cuts", q, WRONG, () -> q.cutByLikeness(1, 1));
        IS.fails("27: 16 cuts before not alike", q, STATE, () -> q.cutByLikeness(1, 2));
        IS.fails("27: 16 cuts", q, STATE, () -> q.cutByLikeness(0, 1));
    }

    private static void gain() {
        BranchQuarry q = Programs.columns(0, 1, 0);
        IS.fails("33: no column before no tree", q, NONE, () -> q.gain(1, true));
        IS.fails("33: no column before no tree", q, NONE, () -> q.gain(-1, false));
        IS.fails("33: no tree", q, STATE, () -> q.gain(0, true));
    }

    /** Two objects with the same calls, but for refused ones on one of them, stay alike to the end. */
    private static void nothingIsChanged() {
        for (char order : new char[] {'b', 'd'}) {
            for (char rule : new char[] {'f', 'h', 'l'}) {
                BranchQuarry plain = new BranchQuarry();
                BranchQuarry refused = new BranchQuarry();
                for (int step = 0; step < 40; step++) {
                    refuse(refused);
                    IS.same("refused ahead of the step " + step, Checks.picture(plain), Checks.picture(refused));
                    IS.same("the step " + step + " by " + order + rule, step(plain, step, order, rule),
                            step(refused, step, order, rule));
                }
                IS.same("the end by " + order + rule, Checks.picture(plain), Checks.picture(refused));
            }
        }
    }

    private static String step(BranchQuarry q, int step, char order, char rule) {
        switch (step) {
            case 0: return "" + q.addColumn(-7, 0, 2, true);
            case 1: return "" + q.addColumn(-1, 0, 3, true);
            case 2: return "" + q.addColumn(-4, 0, 5, true);
            case 3: return "" + q.addRow('l', 5, 2, 0, 1, 0);
            case 4: return "" + q.addRow('l', 10, 1, 2, 3, 0);
            case 5: return "" + q.tighten();
            case 6: return "" + q.begin(order, rule);
            case 8: return "" + q.cutByRounding(0, 1, 2);
            case 14: return "" + q.addRow('l', 9, 1, 1, 1, 0);
            case 18: return "" + q.offer(1, 1, 1, 0);
            case 24: return "" + q.addRow('g', 2, 0, 1, 0, 0);
            default: return "" + q.solve(1);
        }
    }

    /** Calls that are refused in any state; those that would not be are left out. */
    private static void refuse(BranchQuarry q) {
        int nodes = q.nodes();
        int cuts = q.cuts();
        boolean isTree = nodes > 0;
        IS.fails("2: refused", q, WRONG, () -> q.addColumn(1, 2, 1, true));
        IS.fails("3: refused", q, WRONG, () -> q.addRow('l', 0, 5, 5, 5, 1));
        IS.fails("3: refused", q, WRONG, () -> q.addRow('e', -100, 0, 0, 0, 0));
        IS.fails("9: refused", q, WRONG, () -> q.begin('d', 'd'));
        IS.fails("9: refused", q, WRONG, () -> q.begin('l', 'l'));
        IS.fails("10: refused", q, WRONG, () -> q.solve(42));
        IS.fails("13: refused", q, NONE, () -> q.state(nodes));
        IS.fails("14: refused", q, NONE, () -> q.parent(nodes));
        IS.fails("17: refused", q, NONE, () -> q.value(nodes));
        IS.fails("18: refused", q, NONE, () -> q.point(nodes, 0));
        IS.fails("21: refused", q, NONE, () -> q.round(nodes));
        IS.fails("23: refused", q, NONE, () -> q.solution(3));
        IS.fails("25: refused", q, NONE, () -> q.cutByRounding(nodes, 0, 2));
        IS.fails("26: refused", q, NONE, () -> q.cutByCover(8));
        IS.fails("27: refused", q, NONE, () -> q.cutByLikeness(0, 3));
        IS.fails("29: refused", q, NONE, () -> q.kind(cuts));
        IS.fails("33: refused", q, NONE, () -> q.gain(3, true));
        if (!isTree) {
            IS.fails("10: refused", q, STATE, () -> q.solve(1));
            IS.fails("20: refused", q, STATE, () -> q.offer(0, 0, 0, 0));
            IS.fails("34: refused", q, ArithmeticException.class, q::gap);
            IS.fails("35: refused", q, ArithmeticException.class, q::meanDepth);
            return;
        }
        IS.fails("2: refused", q, STATE, () -> q.addColumn(1, 1, 2, true));
        IS.fails("4: refused", q, STATE, q::tighten);
        IS.fails("14: refused", q, NOTHING, () -> q.parent(0));
        IS.fails("25: refused", q, WRONG, () -> q.cutByRounding(0, 0, 6));
        IS.fails("27: refused", q, WRONG, () -> q.cutByLikeness(1, 0));
        IS.fails("27: refused", q, NO, () -> q.cutByLikeness(0, 1));
        if (q.state(0) == 'o') {
            IS.fails("19: refused", q, NOTHING, q::bound);
            IS.fails("21: refused", q, NOTHING, () -> q.round(0));
            IS.fails("26: refused", q, NOTHING, () -> q.cutByCover(0));
        } else {
            IS.fails("26: refused", q, NO, () -> q.cutByCover(0));
        }
    }
}
