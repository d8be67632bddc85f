import java.util.NoSuchElementException;

/** Promises 1 to 8. */
public final class ColumnsAndRowsTest {
    private static final Checks IS = new Checks();

    public static void main(String[] args) {
        newObject();
        addColumn();
        addRow();
        laterRows();
        likenessIsLost();
        tighten();
        tightenMoreKinds();
        lowerAndUpper();
        areAlike();
        unkept();
        IS.end("ColumnsAndRowsTest");
    }

    private static void newObject() {
        BranchQuarry q = new BranchQuarry();
        IS.same("1: nodes", 0, q.nodes());
        IS.same("1: open", 0, q.open());
        IS.same("1: cuts", 0, q.cuts());
        IS.same("1: bestByAll of the empty point", 0, q.bestByAll());
        IS.fails("1: lower", q, IndexOutOfBoundsException.class, () -> q.lower(0));
        IS.fails("1: state", q, IndexOutOfBoundsException.class, () -> q.state(0));
        IS.fails("1: best", q, NoSuchElementException.class, q::best);
        IS.fails("1: solve", q, IllegalStateException.class, () -> q.solve(1));
        IS.same("1: tighten", 0, q.tighten());
        IS.same("1: the first column", 0, q.addColumn(0, 0, 0, false));
        IS.same("1: the first row", 0, new BranchQuarry().addRow('l', 0, 0, 0, 0, 0));
    }

    private static void addColumn() {
        BranchQuarry q = new BranchQuarry();
        Class<IllegalArgumentException> range = IllegalArgumentException.class;
        IS.fails("2: cost -10", q, range, () -> q.addColumn(-10, 0, 1, true));
        IS.fails("2: cost 10", q, range, () -> q.addColumn(10, 0, 1, true));
        IS.fails("2: lower -10", q, range, () -> q.addColumn(0, -10, 1, true));
        IS.fails("2: lower 10", q, range, () -> q.addColumn(0, 10, 10, true));
        IS.fails("2: upper 10", q, range, () -> q.addColumn(0, 0, 10, true));
        IS.fails("2: upper under lower", q, range, () -> q.addColumn(0, 3, 2, true));
        IS.fails("2: least int", q, range, () -> q.addColumn(Integer.MIN_VALUE, 0, 1, true));
        IS.fails("2: least lower", q, range, () -> q.addColumn(0, Integer.MIN_VALUE, 1, true));
        IS.fails("2: greatest upper", q, range, () -> q.addColumn(0, 0, Integer.MAX_VALUE, true));
        IS.same("2: column 0", 0, q.addColumn(-9, -9, 9, true));
        IS.same("2: column 1", 1, q.addColumn(9, 9, 9, false));
        IS.same("2: column 2", 2, q.addColumn(0, -9, -9, true));
        IS.same("2: column 3", 3, q.addColumn(0, 1, 2, true));
        IS.fails("2: a fifth column", q, IllegalStateException.class, () -> q.addColumn(0, 0, 1, true));
        IS.fails("2: the range is looked at first", q, range, () -> q.addColumn(10, 0, 1, true));
        IS.same("2: lower", -9, q.lower(0));
        IS.same("2: upper", 2, q.upper(3));

        BranchQuarry withRow = Programs.columns(0, 1, 1);
        withRow.addRow('l', 1, 1, 0, 0, 0);
        IS.fails("2: there is a row", withRow, IllegalStateException.class,
                () -> withRow.addColumn(0, 0, 1, true));
        BranchQuarry withTree = Programs.columns(0, 1, 1);
        withTree.begin('b', 'f');
        IS.fails("2: there is a tree", withTree, IllegalStateException.class,
                () -> withTree.addColumn(0, 0, 1, true));
        IS.fails("2: range before tree", withTree, range, () -> withTree.addColumn(0, 2, 1, true));
    }

    private static void addRow() {
        BranchQuarry q = Programs.columns(0, 9, 1, 1);
        Class<IllegalArgumentException> wrong = IllegalArgumentException.class;
        IS.fails("3: no such sense", q, wrong, () -> q.addRow('x', 0, 1, 0, 0, 0));
        IS.fails("3: no such sense", q, wrong, () -> q.addRow('L', 0, 1, 0, 0, 0));
        IS.fails("3: side 100", q, wrong, () -> q.addRow('l', 100, 1, 0, 0, 0));
        IS.fails("3: side -100", q, wrong, () -> q.addRow('l', -100, 1, 0, 0, 0));
        IS.fails("3: a 6", q, wrong, () -> q.addRow('l', 0, 6, 0, 0, 0));
        IS.fails("3: b -6", q, wrong, () -> q.addRow('l', 0, 0, -6, 0, 0));
        IS.fails("3: no column 2", q, wrong, () -> q.addRow('l', 0, 0, 0, 1, 0));
        IS.fails("3: no column 3", q, wrong, () -> q.addRow('l', 0, 0, 0, 0, -1));
        IS.fails("3: least int", q, wrong, () -> q.addRow('l', 0, Integer.MIN_VALUE, 0, 0, 0));
        IS.same("3: row 0", 0, q.addRow('l', 99, 5, -5, 0, 0));
        IS.same("3: row 1", 1, q.addRow('g', -99, -5, 5, 0, 0));
        for (int k = 2; k < 8; k++) {
            IS.same("3: row " + k, k, q.addRow('e', 0, 0, 0, 0, 0));
        }
        IS.fails("3: a ninth row", q, IllegalStateException.class, () -> q.addRow('l', 0, 0, 0, 0, 0));
        IS.fails("3: wrong before full", q, wrong, () -> q.addRow('x', 0, 0, 0, 0, 0));

        BranchQuarry four = Programs.columns(0, 1, 1, 1, 1, 1);
        IS.fails("3: c 6", four, wrong, () -> four.addRow('l', 0, 0, 0, 6, 0));
        IS.fails("3: d -6", four, wrong, () -> four.addRow('l', 0, 0, 0, 0, -6));
        IS.same("3: all four", 0, four.addRow('e', 0, 1, 2, 3, 4));
        BranchQuarry none = new BranchQuarry();
        IS.fails("3: no columns", none, wrong, () -> none.addRow('l', 0, 1, 0, 0, 0));

        BranchQuarry senses = Programs.columns(0, 9, 1);
        senses.addRow('g', 2, 1, 0, 0, 0);
        senses.addRow('l', 9, 2, 0, 0, 0);
        IS.same("3: at least", 2, senses.bestByAll());
        senses.addRow('e', 4, 1, 0, 0, 0);
        IS.same("3: equal", 4, senses.bestByAll());
        senses.addRow('l', 3, 1, 0, 0, 0);
        IS.fails("3: at most", senses, NoSuchElementException.class, senses::bestByAll);
    }

    private static BranchQuarry solved(char order, char rule) {
        BranchQuarry q = Programs.two(order, rule);
        q.solve(41);
        return q;
    }

    private static void laterRows() {
        BranchQuarry kept = solved('b', 'f');
        int nodes = kept.nodes();
        kept.addRow('l', 0, 1, 0, 0, 0);
        IS.same("3: the tree stays", nodes, kept.nodes());
        IS.same("3: the best one stays", Checks.fraction(-12, 1), kept.best());

        BranchQuarry lost = solved('b', 'f');
        lost.cutByRounding(0, 0, 2);
        IS.same("3: a row that the best one does not keep", 2, lost.addRow('g', 2, 1, 0, 0, 0));
        IS.same("3: the tree is begun anew", 1, lost.nodes());
        IS.same("3: its node is open", 'o', lost.state(0));
        IS.same("3: no cuts", 0, lost.cuts());
        IS.same("3: no gains", "1 1 1 1", lost.gain(0, true) + " " + lost.gain(0, false) + " "
                + lost.gain(1, true) + " " + lost.gain(1, false));
        IS.fails("3: the best one is lost", lost, NoSuchElementException.class, lost::best);
        lost.solve(41);
        IS.same("3: the row counts", Checks.fraction(-10, 1), lost.best());

        BranchQuarry open = Programs.two('b', 'f');
        open.solve(1);
        long value = open.value(0);
        open.addRow('l', 0, 1, 0, 0, 0);
        IS.same("3: without a best one the tree stays", 3, open.nodes());
        IS.same("3: a solved node stays as it is", value, open.value(0));
        open.solve(1);
        IS.same("3: a later node keeps the row", Checks.fraction(0, 1), open.point(1, 0));

        // The tree after a loss has the order 'd': of the nodes 1 and 2, the node 2 is solved first.
        BranchQuarry deep = solved('d', 'f');
        deep.addRow('l', 2, 0, 1, 0, 0);
        IS.same("3: begun anew", 1, deep.nodes());
        deep.solve(2);
        IS.same("3: the same order", "true false", (deep.state(1) == 'o') + " " + (deep.state(2) == 'o'));
    }

    private static void likenessIsLost() {
        BranchQuarry others = Programs.columns(0, 1, -5, -5, -5);
        others.begin('b', 'f');
        others.cutByLikeness(1, 2);
        others.solve(1);
        others.addRow('l', 9, 0, 1, 1, 0);
        IS.same("3: of other columns", false, others.areAlike(0, 1));
        IS.same("3: the tree stays", 1, others.cuts());
        BranchQuarry q = Programs.columns(0, 1, -5, -5);
        q.addRow('l', 3, 2, 2, 0, 0);
        q.begin('b', 'f');
        q.offer(0, 0, 0, 0);
        q.solve(1);
        q.cutByLikeness(0, 1);
        q.addRow('l', 9, 1, 1, 0, 0);
        IS.same("3: still alike, the tree stays", 3, q.nodes());
        IS.same("3: and the cut", 1, q.cuts());
        q.addRow('l', 1, 1, 0, 0, 0);
        IS.same("3: not alike, begun anew", 1, q.nodes());
        IS.same("3: without the cut", 0, q.cuts());
        IS.same("3: with the best one", Checks.fraction(0, 1), q.best());
        q.solve(1);
        q.addRow('l', 1, 0, 1, 0, 0);
        IS.same("3: no cut by likeness in this tree", 3, q.nodes());
        IS.same("3: alike again", true, q.areAlike(0, 1));
    }

    private static void tighten() {
        BranchQuarry q = Programs.columns(0, 9, 1, 1, 1);
        q.addRow('l', -3, 1, -1, 0, 0);
        q.addRow('l', -3, 0, 1, -1, 0);
        IS.same("4: x + 3 <= y, y + 3 <= z", 4, q.tighten());
        IS.same("4: x", "0 3", q.lower(0) + " " + q.upper(0));
        IS.same("4: y", "3 6", q.lower(1) + " " + q.upper(1));
        IS.same("4: z", "6 9", q.lower(2) + " " + q.upper(2));
        IS.same("4: nothing more", 0, q.tighten());
        q.addRow('g', 5, 0, 1, 0, 0);
        IS.same("4: from the tight ones on", 2, q.tighten());
        IS.same("4: y at least 5", 5, q.lower(1));
        IS.same("4: z at least 8", 8, q.lower(2));
        q.begin('b', 'f');
        IS.fails("4: there is a tree", q, IllegalStateException.class, q::tighten);

        BranchQuarry back = Programs.columns(0, 9, 1, 1);
        back.addRow('l', 0, 1, -1, 0, 0);
        back.addRow('l', 4, 0, 1, 0, 0);
        IS.same("4: x <= y, y <= 4", 2, back.tighten());
        IS.same("4: the first row again", 4, back.upper(0));
        BranchQuarry forth = Programs.columns(0, 9, 1, 1);
        forth.addRow('g', 0, 1, -1, 0, 0);
        forth.addRow('g', 4, 0, 1, 0, 0);
        IS.same("4: x >= y, y >= 4", 2, forth.tighten());
        IS.same("4: the first row again", 4, forth.lower(0));

        BranchQuarry down = Programs.columns(-9, 9, 1);
        down.addRow('l', -7, 2, 0, 0, 0);
        IS.same("4: 2x <= -7", 1, down.tighten());
        IS.same("4: rounded down", -4, down.upper(0));
        BranchQuarry up = Programs.columns(-9, 9, 1);
        up.addRow('g', -7, 2, 0, 0, 0);
        IS.same("4: 2x >= -7", 1, up.tighten());
        IS.same("4: rounded up", -3, up.lower(0));
        BranchQuarry turned = Programs.columns(-9, 9, 1);
        turned.addRow('l', 7, -2, 0, 0, 0);
        turned.tighten();
        IS.same("4: -2x <= 7", -3, turned.lower(0));
        BranchQuarry edge = Programs.columns(0, 4, 1);
        edge.addRow('l', 8, 2, 0, 0, 0);
        IS.same("4: the edge itself stays", 0, edge.tighten());

        BranchQuarry cascade = Programs.columns(0, 9, 1, 1);
        cascade.addRow('l', 9, 1, 0, 0, 0);
        cascade.addRow('e', 7, 2, 2, 0, 0);
        IS.fails("4: 2x + 2y = 7", cascade, UnsupportedOperationException.class, cascade::tighten);
        IS.same("4: unchanged", 9, cascade.upper(0));
    }

    private static void tightenMoreKinds() {
        BranchQuarry mixed = new BranchQuarry();
        mixed.addColumn(1, 0, 9, true);
        mixed.addColumn(1, 2, 8, false);
        mixed.addRow('l', 5, 1, 1, 0, 0);
        IS.same("4: only the whole column", 1, mixed.tighten());
        IS.same("4: with the other one at its least", 3, mixed.upper(0));
        IS.same("4: the other one stays", 8, mixed.upper(1));

        BranchQuarry equal = Programs.columns(0, 9, 1, 1);
        equal.addRow('e', 4, 1, 1, 0, 0);
        equal.addRow('e', 3, 1, 0, 0, 0);
        IS.same("4: x + y = 4, x = 3", 4, equal.tighten());
        IS.same("4: y", "1 1", equal.lower(1) + " " + equal.upper(1));

        BranchQuarry loose = new BranchQuarry();
        loose.addColumn(1, 0, 9, false);
        loose.addRow('g', 99, 1, 0, 0, 0);
        IS.same("4: a row without whole columns", 0, loose.tighten());
        BranchQuarry empty = Programs.columns(0, 9, 1);
        empty.addRow('l', -1, 0, 0, 0, 0);
        IS.same("4: a row without coefficients", 0, empty.tighten());
        BranchQuarry single = Programs.columns(0, 9, 1);
        single.addRow('e', 3, 2, 0, 0, 0);
        IS.fails("4: 2x = 3", single, UnsupportedOperationException.class, single::tighten);
        BranchQuarry many = Programs.columns(0, 9, 1, 1);
        many.addRow('l', 3, 1, 0, 0, 0);
        many.addRow('g', 4, 1, 0, 0, 0);
        IS.fails("4: x <= 3, x >= 4", many, UnsupportedOperationException.class, many::tighten);
        many.begin('b', 'f');
        IS.fails("4: the tree is looked at first", many, IllegalStateException.class, many::tighten);
    }

    private static void lowerAndUpper() {
        BranchQuarry q = new BranchQuarry();
        q.addColumn(1, -3, 9, true);
        q.addColumn(1, -2, 7, true);
        q.addRow('l', 4, 1, 0, 0, 0);
        q.addRow('g', -1, 0, 1, 0, 0);
        IS.same("5: as told", -2, q.lower(1));
        IS.same("6: as told", 9, q.upper(0));
        q.tighten();
        IS.same("5: tight", -1, q.lower(1));
        IS.same("6: tight", 4, q.upper(0));
        IS.same("5: not tighter", -3, q.lower(0));
        IS.same("6: not tighter", 7, q.upper(1));
        Class<IndexOutOfBoundsException> none = IndexOutOfBoundsException.class;
        IS.fails("5: column -1", q, none, () -> q.lower(-1));
        IS.fails("5: column 2", q, none, () -> q.lower(2));
        IS.fails("5: greatest int", q, none, () -> q.lower(Integer.MAX_VALUE));
        IS.fails("6: column -1", q, none, () -> q.upper(-1));
        IS.fails("6: column 2", q, none, () -> q.upper(2));
        IS.fails("6: least int", q, none, () -> q.upper(Integer.MIN_VALUE));
    }

    private static boolean areAlike(int[] first, boolean firstWhole, int[] second, boolean secondWhole) {
        BranchQuarry q = new BranchQuarry();
        q.addColumn(first[0], first[1], first[2], firstWhole);
        q.addColumn(second[0], second[1], second[2], secondWhole);
        return q.areAlike(0, 1);
    }

    private static void areAlike() {
        int[] plain = {1, 0, 5};
        IS.same("7: alike", true, areAlike(plain, true, plain, true));
        IS.same("7: costs", false, areAlike(plain, true, new int[] {2, 0, 5}, true));
        IS.same("7: lower bounds", false, areAlike(plain, true, new int[] {1, 1, 5}, true));
        IS.same("7: upper bounds", false, areAlike(plain, true, new int[] {1, 0, 4}, true));
        IS.same("7: kinds", false, areAlike(plain, true, plain, false));

        BranchQuarry q = Programs.columns(0, 5, 1, 1, 1);
        IS.same("7: a column and itself", true, q.areAlike(1, 1));
        q.addRow('l', 4, 1, 2, 3, 0);
        IS.same("7: an exchanged row is missing", false, q.areAlike(0, 1));
        IS.same("7: of the column itself none is missing", true, q.areAlike(2, 2));
        q.addRow('g', 4, 0, 0, 1, 0);
        q.addRow('l', 4, 2, 1, 3, 0);
        IS.same("7: in whatever order", true, q.areAlike(0, 1));
        IS.same("7: the other way round", true, q.areAlike(1, 0));
        IS.same("7: not with the third", false, q.areAlike(0, 2));
        q.addRow('l', 4, 1, 2, 3, 0);
        IS.same("7: not as often", false, q.areAlike(0, 1));
        q.addRow('l', 4, 2, 1, 3, 0);
        IS.same("7: as often again", true, q.areAlike(0, 1));
        q.addRow('g', 7, 1, 0, 0, 0);
        q.addRow('l', 7, 0, 1, 0, 0);
        IS.same("7: another sense", false, q.areAlike(0, 1));
        BranchQuarry sides = Programs.columns(0, 5, 1, 1);
        sides.addRow('l', 4, 1, 0, 0, 0);
        IS.same("7: a row of one alone", false, sides.areAlike(0, 1));
        sides.tighten();
        sides.addRow('l', 3, 0, 1, 0, 0);
        IS.same("7: another side", false, sides.areAlike(0, 1));
        BranchQuarry told = Programs.columns(0, 5, 1, 1);
        told.addRow('l', 4, 1, 0, 0, 0);
        told.tighten();
        told.addRow('l', 4, 0, 1, 0, 0);
        IS.same("7: the bounds as they were told", true, told.areAlike(0, 1));
        IS.fails("7: column 2", sides, IndexOutOfBoundsException.class, () -> sides.areAlike(2, 0));
        IS.fails("7: column -1", sides, IndexOutOfBoundsException.class, () -> sides.areAlike(-1, 0));
        IS.fails("7: other 2", sides, IndexOutOfBoundsException.class, () -> sides.areAlike(0, 2));
        IS.fails("7: other -1", sides, IndexOutOfBoundsException.class, () -> sides.areAlike(0, -1));
    }

    private static void unkept() {
        BranchQuarry q = Programs.columns(0, 9, 1, 1);
        IS.fails("8: no rows", q, NoSuchElementException.class, q::unkept);
        q.addRow('e', 1, 2, 2, 0, 0);
        IS.fails("8: whole or not", q, NoSuchElementException.class, q::unkept);
        q.addRow('g', 0, 1, 0, 0, 0);
        q.addRow('g', 2, 0, 3, 0, 0);
        IS.same("8: 2x + 2y = 1, 3y >= 2", 1 + 4, q.unkept());
        q.addRow('g', 4, 0, 5, 0, 0);
        IS.same("8: the lower number is left out", 1 + 8, q.unkept());
        q.addRow('l', -1, 0, 0, 0, 0);
        IS.same("8: a row that cannot hold by itself", 16, q.unkept());

        BranchQuarry pairs = Programs.columns(-9, 9, 1);
        pairs.addRow('g', 3, 1, 0, 0, 0);
        pairs.addRow('l', 2, 1, 0, 0, 0);
        pairs.addRow('g', 4, 1, 0, 0, 0);
        IS.same("8: x >= 3 is left out", 2 + 4, pairs.unkept());

        BranchQuarry bounds = Programs.columns(0, 9, 1, 1);
        bounds.addRow('l', 5, 1, 0, 0, 0);
        bounds.tighten();
        bounds.addRow('g', 15, 1, 1, 0, 0);
        IS.same("8: in the bounds as they were told", 1 + 2, bounds.unkept());
        bounds.addRow('g', 19, 1, 1, 0, 0);
        IS.same("8: the bounds alone", 4, bounds.unkept());

        BranchQuarry three = Programs.columns(0, 9, 0, 0, 0);
        three.addRow('l', 2, 1, 1, 0, 0);
        three.addRow('l', 2, 0, 1, 1, 0);
        three.addRow('l', 2, 1, 0, 1, 0);
        three.addRow('g', 4, 1, 1, 1, 0);
        IS.same("8: all four", 15, three.unkept());
        three.addRow('g', 3, 1, 1, 1, 0);
        IS.same("8: the last one is not needed", 15, three.unkept());

        BranchQuarry loose = new BranchQuarry();
        loose.addColumn(0, 0, 1, false);
        loose.addRow('e', 1, 2, 0, 0, 0);
        IS.fails("8: a column that is not whole", loose, NoSuchElementException.class, loose::unkept);
        BranchQuarry none = new BranchQuarry();
        none.addRow('e', 0, 0, 0, 0, 0);
        IS.fails("8: without columns", none, NoSuchElementException.class, none::unkept);
        none.addRow('g', 1, 0, 0, 0, 0);
        IS.same("8: without columns", 2, none.unkept());
        none.addRow('e', 1, 0, 0, 0, 0);
        IS.same("8: without columns, the last one alone", 4, none.unkept());
    }
}
