import java.util.NoSuchElementException;

/** Promises 25 to 33, and what cuts and gains do in promise 10. */
public final class CutsTest {
    private static final Checks IS = new Checks();
    private static final Class<IndexOutOfBoundsException> NONE = IndexOutOfBoundsException.class;
    private static final Class<NoSuchElementException> NOTHING = NoSuchElementException.class;
    private static final Class<IllegalArgumentException> WRONG = IllegalArgumentException.class;
    private static final Class<IllegalStateException> STATE = IllegalStateException.class;
    private static final Class<UnsupportedOperationException> NO = UnsupportedOperationException.class;

    public static void main(String[] args) {
        rounding();
        roundingAtNodes();
        roundingRefuses();
        covers();
        coversLifted();
        coversRefuse();
        coversRefuseRows();
        likeness();
        likenessRefuses();
        conflicts();
        noConflicts();
        looks();
        ages();
        droppedCuts();
        gains();
        gainsUnderZero();
        IS.end("CutsTest");
    }

    /** Makes cuts until there are as many as that. */
    private static void fill(BranchQuarry q, int count) {
        for (int k = q.cuts(); k < count; k++) {
            IS.same("25: number", k, q.cutByRounding(0, 0, 5));
        }
    }

    private static void rounding() {
        BranchQuarry q = Programs.two('b', 'f');
        IS.same("25: the first cut", 0, q.cutByRounding(0, 0, 2));
        IS.same("25: 2x + 4y <= 13 by 2", "r 1 2 <= 6", Checks.cut(q, 0, 2));
        IS.same("25: the second cut", 1, q.cutByRounding(0, 0, 3));
        IS.same("25: by 3", "r 0 1 <= 4", Checks.cut(q, 1, 2));
        q.cutByRounding(0, 0, 4);
        IS.same("25: by 4", "r 0 1 <= 3", Checks.cut(q, 2, 2));
        q.cutByRounding(0, 1, 5);
        IS.same("25: by 5", "r 0 0 <= 1", Checks.cut(q, 3, 2));

        BranchQuarry signs = new BranchQuarry();
        signs.addColumn(1, -3, 9, true);
        signs.addColumn(1, 2, 9, true);
        signs.addColumn(1, -9, 9, false);
        signs.addRow('l', 7, 3, -5, 0, 0);
        signs.addRow('g', 7, 3, -5, 0, 0);
        signs.addRow('e', -7, 5, 3, 0, 0);
        signs.begin('b', 'f');
        // 3x - 5y <= 7: left 7 + 9 + 10 = 26, by 2: 13; shift 1 * -3 + -3 * 2 = -9.
        signs.cutByRounding(0, 0, 2);
        IS.same("25: 'l'", "r 1 -3 0 <= 4", Checks.cut(signs, 0, 3));
        // -3x + 5y <= -7: left -7 - 9 - 10 = -26, by 4: -7; shift -1 * -3 + 1 * 2 = 5.
        signs.cutByRounding(0, 1, 4);
        IS.same("25: 'g', all signs turned", "r -1 1 0 <= -2", Checks.cut(signs, 1, 3));
        // 5x + 3y <= -7: left -7 + 15 - 6 = 2, by 3: 0; shift 1 * -3 + 1 * 2 = -1.
        signs.cutByRounding(0, 2, 3);
        IS.same("25: 'e', as it stands", "r 1 1 0 <= -1", Checks.cut(signs, 2, 3));
    }

    private static void roundingAtNodes() {
        BranchQuarry q = Programs.two('b', 'f');
        q.solve(1);
        // 3x + 2y <= 9 with x at least 2: left 3, by 2: 1; shift 1 * 2.
        q.cutByRounding(2, 1, 2);
        IS.same("25: with the lower bounds of the node", "r 1 1 <= 3", Checks.cut(q, 0, 2));
        q.solve(2);
        IS.same("25: true at the node", Checks.fraction(1, 1), q.point(2, 1));
        IS.same("25: not true beside it", Checks.fraction(11, 4), q.point(1, 1));
        IS.same("25: its sum is its side at the node", 0, q.age(0));
        BranchQuarry left = Programs.two('b', 'f');
        left.solve(1);
        left.cutByRounding(1, 0, 2);
        IS.same("25: for the node 1", "r 1 2 <= 6", Checks.cut(left, 0, 2));
        left.solve(41);
        IS.same("25: the node 1 keeps it", Checks.fraction(-13, 1), left.value(1));
        IS.same("25: and so does the node 4, which comes of it", "1 " + Checks.fraction(-12, 1),
                left.parent(4) + " " + left.value(4));

        BranchQuarry under = new BranchQuarry();
        under.addColumn(-1, 0, 9, true);
        under.addColumn(-2, 0, 9, true);
        under.addRow('l', 9, 2, 4, 0, 0);
        under.addRow('l', 7, 2, 0, 0, 0);
        under.begin('d', 'f');
        under.solve(1);
        under.cutByRounding(0, 0, 2);
        IS.same("25: at the node 0 it is true at all", "r 1 2 <= 4", Checks.cut(under, 0, 2));
        under.solve(2);
        IS.same("25: the next point keeps it", Checks.fraction(-4, 1), under.value(1));
        BranchQuarry tight = new BranchQuarry();
        tight.addColumn(-1, 0, 9, true);
        tight.addColumn(-2, 0, 9, true);
        tight.addRow('l', 9, 2, 4, 0, 0);
        tight.addRow('g', 3, 2, 0, 0, 0);
        tight.tighten();
        tight.begin('d', 'f');
        tight.cutByRounding(0, 0, 4);
        // The tight lower bound of x is 2: left 5, by 4: 1; shift 0 * 2.
        IS.same("25: the bounds of the node 0 are the tight ones", "r 0 1 <= 1", Checks.cut(tight, 0, 2));
    }

    private static void roundingRefuses() {
        BranchQuarry none = new BranchQuarry();
        none.addColumn(1, 0, 1, true);
        none.addRow('l', 1, 1, 0, 0, 0);
        IS.fails("25: no tree", none, NONE, () -> none.cutByRounding(0, 0, 2));
        BranchQuarry q = new BranchQuarry();
        q.addColumn(1, 0, 1, true);
        q.addColumn(1, 0, 1, false);
        q.addRow('l', 1, 1, 0, 0, 0);
        q.addRow('l', 1, 1, 1, 0, 0);
        q.begin('b', 'f');
        IS.fails("25: node -1", q, NONE, () -> q.cutByRounding(-1, 0, 2));
        IS.fails("25: node 1", q, NONE, () -> q.cutByRounding(1, 0, 2));
        IS.fails("25: row -1", q, NONE, () -> q.cutByRounding(0, -1, 2));
        IS.fails("25: row 2, before the divisor", q, NONE, () -> q.cutByRounding(0, 2, 6));
        IS.fails("25: divisor 1", q, WRONG, () -> q.cutByRounding(0, 0, 1));
        IS.fails("25: divisor 6", q, WRONG, () -> q.cutByRounding(0, 0, 6));
        IS.fails("25: divisor 0", q, WRONG, () -> q.cutByRounding(0, 0, 0));
        IS.fails("25: divisor before kind", q, WRONG, () -> q.cutByRounding(0, 1, -2));
        IS.fails("25: a column that is not whole", q, NO, () -> q.cutByRounding(0, 1, 2));
        fill(q, 16);
        IS.fails("25: 16 cuts", q, STATE, () -> q.cutByRounding(0, 0, 2));
        IS.fails("25: 16 cuts before kind", q, STATE, () -> q.cutByRounding(0, 1, 2));
        IS.fails("25: divisor before 16 cuts", q, WRONG, () -> q.cutByRounding(0, 0, 6));
        IS.fails("25: node before 16 cuts", q, NONE, () -> q.cutByRounding(1, 0, 2));
        q.begin('b', 'f');
        IS.same("25: a new tree has none", 0, q.cutByRounding(0, 0, 5));
    }

    /** The cut of a row of sense 'l' on columns of these costs, whose point says what is taken first. */
    private static String cover(int[] costs, int side, int... row) {
        BranchQuarry q = Programs.switches(costs);
        q.addRow('l', side, row[0], row[1], row[2], row[3]);
        q.begin('b', 'f');
        q.solve(1);
        q.cutByCover(0);
        return Checks.cut(q, 0, 4);
    }

    private static void covers() {
        // The point is (1, 1, 1/3, 0).
        IS.same("26: by values", "c 1 1 1 1 <= 2", cover(new int[] {-4, -3, -2, -1}, 7, 3, 3, 3, 3));
        // The point is (0, 1/3, 1, 1).
        IS.same("26: by values, from behind", "c 1 1 1 1 <= 2", cover(new int[] {-1, -2, -3, -4}, 7, 3, 3, 3, 3));
        // The point is (0, 0, 1, 1/5), so columns 2 and 3 are taken: 10 is greater than 6.
        IS.same("26: greatest values first", "c 1 0 1 1 <= 1", cover(new int[] {-1, -1, -9, -8}, 6, 2, 2, 5, 5));
        // The point is (0, 1, 0, 0): of those with the value 0, column 0 is taken first: 4 + 5 > 5.
        IS.same("26: of several the lowest number", "c 1 1 0 0 <= 1", cover(new int[] {0, -9, 0, 0}, 5, 4, 5, 0, 1));
        // The point is (1, 1, 3/5): all are taken; 8 > 7 without column 0, so it is left out.
        IS.same("26: left out again", "c 0 1 1 0 <= 1", cover(new int[] {-5, -9, -5, 0}, 7, 1, 3, 5, 0));
        // All three are taken; without column 0 it is 7 > 6, and then 5 without column 1.
        IS.same("26: left out by rising numbers", "c 0 1 1 0 <= 1", cover(new int[] {-9, -9, -9, 0}, 6, 2, 2, 5, 0));
        BranchQuarry turned = Programs.switches(-1, -1);
        turned.addRow('g', -5, -3, -3, 0, 0);
        turned.addRow('e', 5, 3, 3, 0, 0);
        turned.begin('d', 'h');
        turned.solve(1);
        IS.same("26: row 0", 0, turned.cutByCover(0));
        IS.same("26: 'g', all signs turned", "c 1 1 <= 1", Checks.cut(turned, 0, 2));
        IS.same("26: row 1", 1, turned.cutByCover(1));
        IS.same("26: 'e', as it stands", "c 1 1 <= 1", Checks.cut(turned, 1, 2));
        BranchQuarry all = Programs.switches(-5, -4, -3);
        all.addRow('l', 4, 2, 2, 2, 0);
        all.addRow('l', 3, 2, 2, 0, 0);
        all.begin('d', 'f');
        all.solve(1);
        IS.same("26: the point of the node 0", Checks.fraction(1, 2), all.point(0, 1));
        all.cutByCover(1);
        all.solve(1);
        IS.same("26: true at all nodes", "0 -699999", all.age(0) + " " + all.value(2));
        BranchQuarry pairs = Programs.switches(-1, -1, -1, -1);
        pairs.addRow('l', 5, 3, 3, 0, 0);
        pairs.addRow('l', 5, 0, 0, 3, 3);
        pairs.begin('d', 'f');
        pairs.solve(1);
        pairs.cutByCover(0);
        pairs.cutByCover(1);
        IS.same("26: one cover", "c 1 1 0 0 <= 1", Checks.cut(pairs, 0, 4));
        IS.same("26: another cover", "c 0 0 1 1 <= 1", Checks.cut(pairs, 1, 4));
        BranchQuarry zero = Programs.switches(0, 0);
        zero.addRow('l', 0, 1, 1, 0, 0);
        zero.begin('b', 'f');
        zero.solve(1);
        zero.cutByCover(0);
        IS.same("26: a side of 0", "c 1 0 <= 0", Checks.cut(zero, 0, 2));
        BranchQuarry one = Programs.switches(-1, -1);
        one.addRow('l', 3, 5, 1, 0, 0);
        one.begin('d', 'f');
        one.solve(1);
        one.cutByCover(0);
        IS.same("26: a cover of one column", "c 1 0 <= 0", Checks.cut(one, 0, 2));
    }

    private static void coversLifted() {
        // The point is (1, 1, 1/2, 0); 5 - 5 leaves room for no column of the cover.
        IS.same("26: to more than 1", "c 1 1 1 2 <= 2", cover(new int[] {-5, -5, -5, 0}, 5, 2, 2, 2, 5));
        // 4 - 5 is less than 0: there is no choice.
        IS.same("26: no choice", "c 1 1 1 2 <= 2", cover(new int[] {-5, -5, -5, 0}, 4, 2, 2, 1, 5));
        // Column 2 gets 1; then column 3 may stand beside column 2, so it gets 0.
        IS.same("26: one after the other", "c 1 1 1 0 <= 1", cover(new int[] {-5, -4, 0, 0}, 5, 5, 5, 1, 1));
        // The point is (1, 0, 2/3, 0), so the cover is of columns 0 and 2.
        IS.same("26: as heavy as the others", "c 1 1 1 0 <= 1", cover(new int[] {-9, -5, -8, 0}, 5, 3, 3, 3, 0));
        IS.same("26: not of the row", "c 1 0 1 1 <= 1", cover(new int[] {-9, -9, -8, 0}, 5, 3, 0, 3, 5));
    }

    private static void coversRefuse() {
        BranchQuarry q = Programs.switches(-1, -1);
        q.addRow('l', 5, 3, 3, 0, 0);
        q.addRow('l', 6, 3, 3, 0, 0);
        IS.fails("26: row -1", q, NONE, () -> q.cutByCover(-1));
        IS.fails("26: row 2", q, NONE, () -> q.cutByCover(2));
        IS.fails("26: no tree", q, NOTHING, () -> q.cutByCover(0));
        q.begin('b', 'f');
        IS.fails("26: the node 0 is open", q, NOTHING, () -> q.cutByCover(0));
        IS.fails("26: the row is looked at first", q, NONE, () -> q.cutByCover(2));
        fill(q, 16);
        IS.fails("26: open before 16 cuts", q, NOTHING, () -> q.cutByCover(0));
        q.solve(1);
        IS.fails("26: 16 cuts", q, STATE, () -> q.cutByCover(0));
        IS.fails("26: 16 cuts before the row's kind", q, STATE, () -> q.cutByCover(1));
        q.begin('b', 'f');
        q.solve(1);
        IS.fails("26: no cover", q, NO, () -> q.cutByCover(1));
        IS.same("26: a cover", 0, q.cutByCover(0));
        BranchQuarry empty = Programs.switches(-1);
        empty.addRow('l', 0, 1, 0, 0, 0);
        empty.addRow('g', 1, 1, 0, 0, 0);
        empty.begin('b', 'f');
        empty.solve(1);
        IS.fails("26: the node 0 has no point", empty, NOTHING, () -> empty.cutByCover(0));
    }

    private static void coversRefuseRows() {
        BranchQuarry q = new BranchQuarry();
        q.addColumn(-1, 0, 1, true);
        q.addColumn(-1, 0, 1, false);
        q.addColumn(-1, 0, 2, true);
        q.addColumn(-1, -1, 1, true);
        q.addRow('l', 2, 3, 0, 0, 0);
        q.addRow('l', 2, 3, 1, 0, 0);
        q.addRow('l', 2, 3, 0, 1, 0);
        q.addRow('l', 9, 3, 0, 0, -1);
        q.addRow('g', -9, -3, 0, 0, -3);
        q.addRow('l', 0, 0, 0, 0, 0);
        q.addRow('g', -9, 3, 0, 0, 0);
        q.begin('b', 'f');
        q.solve(1);
        IS.fails("26: a column that is not whole", q, NO, () -> q.cutByCover(1));
        IS.fails("26: a column from 0 to 2", q, NO, () -> q.cutByCover(2));
        IS.fails("26: a coefficient less than 0", q, NO, () -> q.cutByCover(3));
        IS.fails("26: a column from -1 to 1", q, NO, () -> q.cutByCover(4));
        IS.fails("26: no column", q, NO, () -> q.cutByCover(5));
        IS.fails("26: less than 0 once the signs are turned", q, NO, () -> q.cutByCover(6));
        IS.same("26: the others do not matter", 0, q.cutByCover(0));
        // A later row that no point keeps leaves the tree and the point of its node 0.
        BranchQuarry minus = Programs.switches(-1, -1);
        minus.addRow('l', 1, 2, 2, 0, 0);
        minus.begin('b', 'f');
        minus.solve(1);
        minus.addRow('l', -1, 1, 1, 0, 0);
        IS.same("26: the tree stays", 3, minus.nodes());
        IS.fails("26: a side less than 0", minus, NO, () -> minus.cutByCover(1));
        BranchQuarry told = new BranchQuarry();
        told.addColumn(-1, 0, 9, true);
        told.addColumn(-1, 0, 1, true);
        told.addRow('l', 1, 1, 0, 0, 0);
        told.addRow('l', 3, 2, 2, 0, 0);
        told.addRow('l', 2, 0, 3, 0, 0);
        told.tighten();
        told.begin('b', 'f');
        told.solve(1);
        IS.same("26: tight from 0 to 1", 1, told.upperAt(0, 0));
        IS.fails("26: but not told so", told, NO, () -> told.cutByCover(1));
        IS.same("26: told from 0 to 1, tight from 0 to 0", 0, told.upperAt(0, 1));
        IS.same("26: makes one", 0, told.cutByCover(2));
    }

    private static void likeness() {
        BranchQuarry q = Programs.switches(-4, -5, -5, -4);
        q.addRow('l', 3, 0, 2, 2, 0);
        q.begin('b', 'f');
        IS.same("27: the first cut", 0, q.cutByLikeness(1, 2));
        IS.same("27: column 1 at least as great", "y 0 -1 1 0 <= 0", Checks.cut(q, 0, 4));
        IS.same("27: the second cut", 1, q.cutByLikeness(0, 3));
        IS.same("27: column 0 at least as great", "y -1 0 0 1 <= 0", Checks.cut(q, 1, 4));
        q.solve(1);
        IS.same("27: the point keeps it", "300004 300004", q.point(0, 1) + " " + q.point(0, 2));
        BranchQuarry without = Programs.switches(-4, -5, -5, -4);
        without.addRow('l', 3, 0, 2, 2, 0);
        without.begin('b', 'f');
        without.solve(1);
        IS.same("27: without it", Checks.fraction(1, 2) + " 100001", without.point(0, 1) + " " + without.point(0, 2));
        without.cutByRounding(0, 0, 2);
        without.begin('b', 'f');
        without.cutByLikeness(0, 3);
        IS.same("27: nothing of a cut of the tree ahead", "y -1 0 0 1 <= 0", Checks.cut(without, 0, 4));
        BranchQuarry loose = new BranchQuarry();
        loose.addColumn(1, -2, 5, false);
        loose.addColumn(1, -2, 5, false);
        loose.begin('b', 'f');
        IS.same("27: columns that are not whole", 0, loose.cutByLikeness(0, 1));
    }

    private static void likenessRefuses() {
        BranchQuarry q = Programs.switches(1, 1, 2);
        q.addRow('l', 3, 1, 1, 1, 0);
        IS.fails("27: column -1", q, NONE, () -> q.cutByLikeness(-1, 0));
        IS.fails("27: column 3", q, NONE, () -> q.cutByLikeness(0, 3));
        IS.fails("27: no column comes first", q, NONE, () -> q.cutByLikeness(3, 0));
        IS.fails("27: the same one", q, WRONG, () -> q.cutByLikeness(1, 1));
        IS.fails("27: a lower one, before the tree", q, WRONG, () -> q.cutByLikeness(1, 0));
        IS.fails("27: no tree", q, STATE, () -> q.cutByLikeness(0, 1));
        IS.fails("27: no tree, before likeness", q, STATE, () -> q.cutByLikeness(0, 2));
        q.begin('b', 'f');
        IS.fails("27: not alike", q, NO, () -> q.cutByLikeness(0, 2));
        fill(q, 15);
        IS.same("27: the last cut", 15, q.cutByLikeness(0, 1));
        IS.fails("27: 16 cuts", q, STATE, () -> q.cutByLikeness(0, 1));
        IS.fails("27: 16 cuts, before likeness", q, STATE, () -> q.cutByLikeness(1, 2));
        IS.fails("27: a lower one, before 16 cuts", q, WRONG, () -> q.cutByLikeness(2, 1));
    }

    /** 2x + 2y = 1: the nodes 2, 3 and 4 have no point. */
    private static void conflicts() {
        BranchQuarry q = Programs.switches(0, 0);
        q.addRow('e', 1, 2, 2, 0, 0);
        q.begin('b', 'f');
        IS.same("10: both nodes above have points", 2, q.solve(2));
        IS.same("10: y, then x is branched", "1 0", q.lowerAt(2, 1) + " " + q.upperAt(3, 0));
        IS.same("28: no conflict yet", 0, q.cuts());
        q.solve(1);
        IS.same("10: a conflict of one column", "k 0 1 <= 0", Checks.cut(q, 0, 2));
        q.solve(41);
        IS.same("10: both 0", "k -1 -1 <= -1", Checks.cut(q, 1, 2));
        IS.same("10: 1 and 0", "k 1 -1 <= 0", Checks.cut(q, 2, 2));
        IS.same("28: three conflicts", 3, q.cuts());
        IS.same("10: all are solved", "ppiii", Checks.states(q));

        // With 3 columns, the conflict of one node takes the point of a node elsewhere away.
        BranchQuarry known = Programs.switches(0, 0, 0);
        known.addRow('e', 3, 2, 2, 2, 0);
        known.begin('d', 'f');
        known.solve(41);
        BranchQuarry full = Programs.switches(0, 0, 0);
        full.addRow('e', 3, 2, 2, 2, 0);
        full.begin('d', 'f');
        fill(full, 14);
        full.solve(41);
        IS.same("28: only 16 are made", 16, full.cuts());
        IS.same("10: the last ones are conflicts", "r k k", full.kind(13) + " " + full.kind(14) + " " + full.kind(15));
        IS.same("10: fewer conflicts, more nodes", true, full.nodes() >= known.nodes() && known.cuts() < 16);
        BranchQuarry tight = Programs.switches(0, 0, 0);
        tight.addRow('l', 0, 0, 0, 1, 0);
        tight.tighten();
        tight.addRow('e', 1, 2, 2, 2, 0);
        tight.begin('b', 'f');
        tight.solve(41);
        IS.same("10: only columns that were branched", "k 0 1 0 <= 0", Checks.cut(tight, 0, 3));
    }

    private static void noConflicts() {
        BranchQuarry wide = new BranchQuarry();
        wide.addColumn(0, 0, 2, true);
        wide.addColumn(0, 0, 1, true);
        wide.addRow('e', 1, 2, 2, 0, 0);
        wide.begin('b', 'f');
        wide.solve(41);
        IS.same("10: states", "ppiii", Checks.states(wide));
        IS.same("10: the path of column 1 alone", "k 0 1 <= 0", Checks.cut(wide, 0, 2));
        IS.same("28: none with a column from 0 to 2", 1, wide.cuts());
        BranchQuarry told = new BranchQuarry();
        told.addColumn(0, 0, 9, true);
        told.addRow('l', 1, 1, 0, 0, 0);
        told.addRow('e', 1, 2, 0, 0, 0);
        told.begin('b', 'f');
        told.solve(41);
        IS.same("28: tight or not, not told from 0 to 1", 0, told.cuts());
        BranchQuarry full = Programs.switches(0, 0);
        full.addRow('e', 1, 2, 2, 0, 0);
        full.begin('b', 'f');
        fill(full, 16);
        full.solve(41);
        IS.same("28: no seventeenth cut", 16, full.cuts());
        IS.same("10: all are solved", 0, full.open());
    }

    private static void looks() {
        BranchQuarry none = Programs.switches(0);
        IS.same("28: no tree", 0, none.cuts());
        IS.fails("29: no tree", none, NONE, () -> none.kind(0));
        BranchQuarry q = Programs.switches(-5, -5, 0);
        q.addRow('l', 3, 2, 2, 0, 0);
        q.begin('b', 'f');
        q.solve(1);
        q.cutByLikeness(0, 1);
        q.cutByCover(0);
        q.cutByRounding(0, 0, 2);
        IS.same("28: three", 3, q.cuts());
        IS.same("29: kinds", "y c r", q.kind(0) + " " + q.kind(1) + " " + q.kind(2));
        IS.same("30: coefficients", "-1 1 0",
                q.coefficient(0, 0) + " " + q.coefficient(1, 1) + " " + q.coefficient(2, 2));
        IS.same("31: sides", "0 1 1", q.side(0) + " " + q.side(1) + " " + q.side(2));
        IS.same("32: ages", "0 0 0", q.age(0) + " " + q.age(1) + " " + q.age(2));
        for (int cut : new int[] {-1, 3, 16, Integer.MAX_VALUE, Integer.MIN_VALUE}) {
            IS.fails("29: cut " + cut, q, NONE, () -> q.kind(cut));
            IS.fails("30: cut " + cut, q, NONE, () -> q.coefficient(cut, 0));
            IS.fails("31: cut " + cut, q, NONE, () -> q.side(cut));
            IS.fails("32: cut " + cut, q, NONE, () -> q.age(cut));
        }
        IS.fails("30: column -1", q, NONE, () -> q.coefficient(0, -1));
        IS.fails("30: column 3", q, NONE, () -> q.coefficient(0, 3));
        q.begin('b', 'f');
        IS.same("28: a new tree", 0, q.cuts());
        IS.fails("29: a cut of the tree ahead", q, NONE, () -> q.kind(0));
    }

    private static void ages() {
        BranchQuarry q = Programs.two('b', 'f');
        q.cutByRounding(0, 0, 5);
        q.cutByRounding(0, 0, 2);
        q.solve(1);
        IS.same("32: 0 <= 2 is never equal", 1, q.age(0));
        IS.same("32: x + 2y <= 6 is", "0 " + Checks.fraction(-27, 2), q.age(1) + " " + q.value(0));
        q.cutByRounding(1, 0, 5);
        IS.same("32: a new one", 0, q.age(2));
        q.solve(1);
        IS.same("32: older by a node", 2, q.age(0));
        IS.same("32: older where it is true", 1, q.age(2));
        q.solve(1);
        IS.same("32: not older where it is not true", "3 1", q.age(0) + " " + q.age(2));
        IS.same("10: node 2 has a point", 'p', q.state(2));
        q.solve(1);
        IS.same("32: dropped", 4, q.age(0));
        int age = q.age(2);
        q.solve(41);
        IS.same("32: it stays dropped", 4, q.age(0));
        IS.same("32: and is still a cut", "3 r 0 0 <= 2", q.cuts() + " " + Checks.cut(q, 0, 2));
        IS.same("32: the one at the node 1 too", true, q.age(2) >= age);
        BranchQuarry never = Programs.switches(-1);
        never.addRow('l', 1, 2, 0, 0, 0);
        never.begin('b', 'f');
        never.solve(1);
        never.cutByRounding(0, 0, 5);
        never.addRow('g', 2, 2, 0, 0, 0);
        never.solve(2);
        IS.same("10: no point", "pii", Checks.states(never));
        IS.same("32: not older at nodes without a point", 0, never.age(0));
    }

    /**
     * 5x + 3y <= 10 with the cut x + y <= 3: the nodes 2, 3, 6 and 5 leave the cut slack, so it is
     * dropped ahead of the node 1, whose point has the value -40/3; its parent's value is -13.
     */
    private static BranchQuarry dropping() {
        BranchQuarry q = new BranchQuarry();
        q.addColumn(-6, 0, 5, true);
        q.addColumn(-4, 0, 6, true);
        q.addRow('l', 10, 5, 3, 0, 0);
        q.begin('d', 'f');
        q.cutByRounding(0, 0, 3);
        return q;
    }

    private static void droppedCuts() {
        BranchQuarry q = dropping();
        IS.same("25: the cut", "r 1 1 <= 3", Checks.cut(q, 0, 2));
        int[] nodes = {0, 2, 4, 3, 6, 5};
        int[] ages = {0, 1, 1, 2, 3, 4};
        for (int k = 0; k < 6; k++) {
            q.solve(1);
            IS.same("10: solved", false, q.state(nodes[k]) == 'o');
            IS.same("32: after the node " + nodes[k], ages[k], q.age(0));
        }
        q.solve(1);
        IS.same("10: a dropped cut is not kept by points any more", Checks.fraction(-40, 3), q.value(1));
        IS.same("10: so the node is branched", 'p', q.state(1));
        IS.same("32: it stays dropped", 4, q.age(0));
        IS.same("33: the gains -1 and 2 of column 0 down", 0, q.gain(0, false));

        BranchQuarry old = new BranchQuarry();
        old.addColumn(-4, 0, 9, true);
        old.addColumn(-4, 0, 9, true);
        old.addColumn(-9, 0, 9, true);
        old.addRow('l', 9, 2, 2, 5, 0);
        old.addRow('l', 1, 0, 0, 2, 0);
        old.begin('d', 'f');
        old.cutByLikeness(0, 1);
        old.solve(41);
        IS.same("32: a cut by likeness is dropped", "y 4", old.kind(0) + " " + old.age(0));
        old.addRow('l', 9, 1, 1, 0, 0);
        IS.same("3: still alike, the tree stays", 31, old.nodes());
        old.addRow('l', 9, 1, 0, 0, 0);
        IS.same("3: not alike any more, though it was dropped", "1 0", old.nodes() + " " + old.cuts());
        IS.same("3: the best one stays", Checks.fraction(-16, 1), old.best());
    }

    private static void gains() {
        BranchQuarry none = Programs.switches(0);
        IS.fails("33: column -1", none, NONE, () -> none.gain(-1, true));
        IS.fails("33: column 1, before the tree", none, NONE, () -> none.gain(1, false));
        IS.fails("33: no tree", none, STATE, () -> none.gain(0, true));
        BranchQuarry q = Programs.two('b', 'f');
        IS.same("33: 1 if there are none", "1 1", q.gain(0, true) + " " + q.gain(0, false));
        q.solve(1);
        IS.same("33: the node 0 has none", "1 1 1 1",
                q.gain(0, true) + " " + q.gain(0, false) + " " + q.gain(1, true) + " " + q.gain(1, false));
        q.solve(1);
        IS.same("33: -14 minus -57/4, rounded down", "0 1", q.gain(0, false) + " " + q.gain(0, true));
        q.solve(1);
        IS.same("33: -12 minus -57/4, rounded down", "0 2", q.gain(0, false) + " " + q.gain(0, true));
        q.solve(2);
        IS.same("33: column 1: 3 down at node 3, 0 up at node 4", "3 0", q.gain(1, false) + " " + q.gain(1, true));
        q.solve(41);
        IS.same("33: 3, 1 and 1 down by 3", "1 0", q.gain(1, false) + " " + q.gain(1, true));
        IS.same("33: nodes without a point have none", "0 2", q.gain(0, false) + " " + q.gain(0, true));
        IS.fails("33: column 2", q, NONE, () -> q.gain(2, true));
        q.begin('b', 'f');
        q.solve(1);
        IS.same("33: none of the tree ahead", "1 1 1 1",
                q.gain(0, true) + " " + q.gain(0, false) + " " + q.gain(1, true) + " " + q.gain(1, false));
        q.solve(1);
        IS.same("33: and no sums", "0 1", q.gain(0, false) + " " + q.gain(0, true));
    }

    /** 3x + 5y <= 17 and 5x <= 8 with the cut x <= 1, dropped ahead of the node 1: 0 and -1 by 2. */
    private static void gainsUnderZero() {
        BranchQuarry q = new BranchQuarry();
        q.addColumn(-3, -1, 3, true);
        q.addColumn(-2, 0, 6, true);
        q.addRow('l', 17, 3, 5, 0, 0);
        q.addRow('l', 8, 5, 0, 0, 0);
        q.begin('d', 'h');
        q.cutByRounding(0, 1, 5);
        IS.same("25: the cut", "r 1 0 <= 1", Checks.cut(q, 0, 2));
        q.solve(6);
        IS.same("33: of node 5", 0, q.gain(1, false));
        q.solve(1);
        IS.same("10: the node 1 is under its parent", Checks.fraction(-44, 5) + " " + Checks.fraction(-43, 5),
                q.value(1) + " " + q.value(0));
        IS.same("33: rounded toward 0", 0, q.gain(1, false));
        BranchQuarry below = dropping();
        below.cutByRounding(0, 0, 5);
        below.solve(7);
        IS.same("33: floors of fractions under 0", 0, below.gain(0, false));
    }
}
