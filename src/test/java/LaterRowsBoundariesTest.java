import java.util.NoSuchElementException;

/** The boundary cases of "Later rows", which belong to the promise 3. */
public final class LaterRowsBoundariesTest {
    private static final Checks IS = new Checks();

    public static void main(String[] args) {
        wholeSolutionKeptOrLost();
        fractionKeptOrLost();
        withoutABestSolution();
        withoutATree();
        staysAsItIs();
        countsFromThenOn();
        begunAnewAsIfFresh();
        begunAnewWithTheBestSolution();
        begunAnewInTightBounds();
        likenessOfTheTwoColumns();
        likenessOfOtherColumns();
        likenessOfOneOfTwoCuts();
        likenessOfTheTreeAhead();
        lostAndNotAlike();
        eightRowsAndATree();
        IS.end("LaterRowsBoundariesTest");
    }

    /** 2x <= 11 with the best solution x = 5, and with the nodes 1 and 2. */
    private static BranchQuarry five() {
        BranchQuarry q = Programs.columns(-9, 9, -1);
        q.addRow('l', 11, 2, 0, 0, 0);
        q.begin('d', 'f');
        q.solve(1);
        q.offer(5, 0, 0, 0);
        return q;
    }

    private static void isKept(String what, BranchQuarry q, boolean isDue, long cost) {
        IS.same("3: " + what + ", the best solution", isDue ? "" + cost : "NoSuchElementException",
                Checks.answer(q::best));
        IS.same("3: " + what + ", the tree", isDue, q.nodes() > 1 || q.state(0) != 'o');
    }

    /** "If the best solution does not keep it, it is lost ... the tree is begun anew": a whole one. */
    private static void wholeSolutionKeptOrLost() {
        for (int side = 3; side <= 7; side++) {
            BranchQuarry most = five();
            most.addRow('l', side, 1, 0, 0, 0);
            isKept("5 is at most " + side, most, 5 <= side, -499999);
            BranchQuarry least = five();
            least.addRow('g', side, 1, 0, 0, 0);
            isKept("5 is at least " + side, least, 5 >= side, -499999);
            BranchQuarry equal = five();
            equal.addRow('e', side, 1, 0, 0, 0);
            isKept("5 is equal to " + side, equal, 5 == side, -499999);
            BranchQuarry turned = five();
            turned.addRow('l', -side, -1, 0, 0, 0);
            isKept("-5 is at most " + -side, turned, -5 <= -side, -499999);
        }
    }

    /** The same for the best solution 7/3. */
    private static void fractionKeptOrLost() {
        int[][] rows = {{'l', 7, 3, 1}, {'l', 6, 3, 0}, {'e', 7, 3, 1}, {'e', 6, 3, 0}, {'e', 8, 3, 0},
            {'g', 7, 3, 1}, {'g', 8, 3, 0}, {'l', 2, 1, 0}, {'l', 3, 1, 1}, {'g', 2, 1, 1}, {'g', 3, 1, 0},
            {'e', 2, 1, 0}, {'l', 11, 5, 0}, {'l', 12, 5, 1}, {'g', 11, 5, 1}, {'g', 12, 5, 0}};
        for (int[] row : rows) {
            BranchQuarry q = new BranchQuarry();
            q.addColumn(-1, 0, 9, false);
            q.addRow('l', 7, 3, 0, 0, 0);
            q.begin('b', 'f');
            q.solve(1);
            IS.same("22: 7/3", Checks.fraction(-7, 3), q.best());
            q.addRow((char) row[0], row[1], row[2], 0, 0, 0);
            isKept(row[2] + " times 7/3 " + (char) row[0] + " " + row[1], q, row[3] == 1, Checks.fraction(-7, 3));
        }
    }

    /** Without a best solution none is lost, so that the tree stays, whatever the row is. */
    private static void withoutABestSolution() {
        for (char sense : new char[] {'l', 'g', 'e'}) {
            BranchQuarry q = Programs.two('b', 'f');
            q.solve(2);
            q.cutByRounding(0, 0, 2);
            q.addRow(sense, sense == 'g' ? 1 : -1, 0, 0, 0, 0);
            IS.same("3: the tree stays", "ppooo 1", Checks.states(q) + " " + q.cuts());
            IS.same("17: with its values", Checks.fraction(-57, 4), q.value(0));
            q.solve(41);
            IS.same("10: no node has a point any more", "ppiii", Checks.states(q));
        }
    }

    /** "A row can be told while there is a tree": without one none is begun. */
    private static void withoutATree() {
        BranchQuarry q = Programs.columns(0, 9, -1);
        q.addRow('l', 4, 1, 0, 0, 0);
        IS.same("3: no tree is begun", 0, q.nodes());
        IS.same("3: so there is no node", "IndexOutOfBoundsException", Checks.answer(() -> q.state(0)));
        q.begin('b', 'f');
        q.addRow('l', 3, 1, 0, 0, 0);
        IS.same("3: an open node 0 stays open", "o", Checks.states(q));
        q.solve(1);
        IS.same("3: and keeps both rows", Checks.fraction(3, 1), q.point(0, 0));
    }

    /** "Otherwise the tree stays": its nodes, cuts, ages, gains and best solution. */
    private static void staysAsItIs() {
        for (int steps = 0; steps <= 11; steps++) {
            BranchQuarry q = Programs.two('b', 'l');
            q.cutByRounding(0, 0, 5);
            q.offer(0, 0, 0, 0);
            for (int k = 0; k < steps; k++) {
                q.solve(1);
            }
            String before = Checks.picture(q);
            q.addRow('l', 99, 5, 4, 0, 0);
            IS.same("3: after " + steps + " nodes all stays", before, Checks.picture(q));
            q.addRow('g', 0, 1, 1, 0, 0);
            IS.same("3: the best solution keeps it with equality or more", before, Checks.picture(q));
        }
    }

    /** A row that leaves the tree counts for the nodes that are solved after it. */
    private static void countsFromThenOn() {
        BranchQuarry q = Programs.two('b', 'f');
        q.solve(1);
        q.addRow('l', 2, 0, 1, 0, 0);
        IS.same("18: a solved node keeps its point", Checks.fraction(21, 8), q.point(0, 1));
        q.solve(1);
        IS.same("18: y is 2 in the node 1, not 11/4", Checks.fraction(2, 1), q.point(1, 1));
        IS.same("19: the bound is that of the points as they were found", Checks.fraction(-57, 4), q.bound());
    }

    /** "The tree is begun anew, with the same order and rule." */
    private static void begunAnewAsIfFresh() {
        for (char order : new char[] {'b', 'd'}) {
            for (char rule : new char[] {'f', 'h', 'l'}) {
                BranchQuarry lost = Programs.two(order, rule);
                lost.solve(41);
                lost.cutByRounding(0, 1, 2);
                lost.addRow('g', 2, 1, 0, 0, 0);
                BranchQuarry fresh = Programs.two();
                fresh.addRow('g', 2, 1, 0, 0, 0);
                fresh.begin(order, rule);
                for (int k = 0; k < 9; k++) {
                    IS.same("3: begun anew by " + order + rule, Checks.picture(fresh), Checks.picture(lost));
                    IS.same("3: solved alike", fresh.solve(1), lost.solve(1));
                }
            }
        }
    }

    private static BranchQuarry alike() {
        BranchQuarry q = Programs.columns(0, 5, -4, -4, -1);
        q.addRow('l', 9, 2, 2, 0, 0);
        return q;
    }

    /** "... and the best solution if it is not lost." */
    private static void begunAnewWithTheBestSolution() {
        for (char order : new char[] {'b', 'd'}) {
            for (char rule : new char[] {'f', 'h', 'l'}) {
                BranchQuarry anew = alike();
                anew.begin(order, rule);
                anew.offer(2, 2, 5, 0);
                anew.cutByLikeness(0, 1);
                anew.solve(2);
                anew.addRow('l', 15, 3, 2, 1, 0);
                BranchQuarry fresh = alike();
                fresh.addRow('l', 15, 3, 2, 1, 0);
                fresh.begin(order, rule);
                fresh.offer(2, 2, 5, 0);
                for (int k = 0; k < 9; k++) {
                    IS.same("3: begun anew by " + order + rule, Checks.picture(fresh), Checks.picture(anew));
                    IS.same("3: solved alike", fresh.solve(1), anew.solve(1));
                }
            }
        }
    }

    /** "Bounds for all columns, which are the tight ones in the node 0", begun anew or not. */
    private static void begunAnewInTightBounds() {
        BranchQuarry q = Programs.columns(0, 9, -1);
        q.addRow('l', 13, 2, 0, 0, 0);
        q.addRow('g', 1, 1, 0, 0, 0);
        q.tighten();
        q.begin('b', 'f');
        q.solve(1);
        IS.same("22: x is 6", Checks.fraction(-6, 1), q.best());
        q.addRow('l', 9, 2, 0, 0, 0);
        IS.same("13: begun anew", "o", Checks.states(q));
        IS.same("15: the tight lower bound", 1, q.lowerAt(0, 0));
        IS.same("16: the tight upper bound, not made tighter by the row", 6, q.upperAt(0, 0));
    }

    /** "If two columns for which a cut by likeness was made in the tree ... are not alike any more." */
    private static void likenessOfTheTwoColumns() {
        int[][] rows = {{9, 1, 1, 0, 1}, {9, 1, 0, 0, 0}, {9, 0, 1, 0, 0}, {9, 0, 0, 1, 1}, {9, 2, 1, 0, 0},
            {9, 2, 2, 1, 1}, {9, 0, 0, 0, 1}, {9, -1, 1, 0, 0}};
        for (int[] row : rows) {
            BranchQuarry q = alike();
            q.begin('b', 'f');
            q.cutByLikeness(0, 1);
            q.solve(1);
            q.addRow('l', 99, row[1], row[2], row[3], 0);
            boolean isDue = row[4] == 1;
            IS.same("7: alike", isDue, q.areAlike(0, 1));
            IS.same("3: the tree stays while they are alike", isDue, q.state(0) != 'o');
            IS.same("28: with its cut", isDue ? 1 : 0, q.cuts());
        }
    }

    /** Columns without a cut by likeness need not stay alike. */
    private static void likenessOfOtherColumns() {
        BranchQuarry q = Programs.columns(0, 1, -1, -1, -1, -1);
        q.begin('b', 'f');
        q.cutByLikeness(1, 2);
        q.solve(1);
        q.addRow('l', 9, 1, 0, 0, 0);
        IS.same("7: columns 0 and 3 are not alike any more", false, q.areAlike(0, 3));
        IS.same("3: they have no cut", "s 1", Checks.states(q) + " " + q.cuts());
        q.addRow('l', 9, 0, 1, 1, 0);
        IS.same("7: columns 2 and 3 are not alike any more", false, q.areAlike(2, 3));
        IS.same("3: they have no cut either", "s 1", Checks.states(q) + " " + q.cuts());
        q.addRow('l', 9, 0, 1, 0, 0);
        IS.same("3: columns 1 and 2 have one", "o 0", Checks.states(q) + " " + q.cuts());
        IS.same("3: the best solution is not lost", Checks.fraction(-4, 1), q.best());
    }

    /** One cut of several is enough. */
    private static void likenessOfOneOfTwoCuts() {
        for (int column = 0; column < 4; column++) {
            BranchQuarry q = Programs.columns(0, 1, -1, -1, -1, -1);
            q.begin('b', 'f');
            q.cutByLikeness(0, 1);
            q.cutByLikeness(2, 3);
            q.solve(1);
            q.addRow('l', 9, 1, 1, 0, 0);
            IS.same("3: both pairs are alike", "s 2", Checks.states(q) + " " + q.cuts());
            int[] co = new int[4];
            co[column] = 1;
            q.addRow('l', 9, co[0], co[1], co[2], co[3]);
            IS.same("3: one pair is not, by column " + column, "o 0", Checks.states(q) + " " + q.cuts());
        }
    }

    /** "... made in the tree": not in the tree ahead of it. */
    private static void likenessOfTheTreeAhead() {
        BranchQuarry q = alike();
        q.begin('b', 'f');
        q.cutByLikeness(0, 1);
        q.begin('b', 'f');
        q.solve(1);
        String before = Checks.states(q);
        q.addRow('l', 99, 1, 0, 0, 0);
        IS.same("7: not alike", false, q.areAlike(0, 1));
        IS.same("3: the cut was made in another tree", before, Checks.states(q));
        q.cutByRounding(0, 0, 2);
        q.addRow('l', 99, 2, 0, 0, 0);
        IS.same("3: a cut by rounding, not by likeness", before + " 1", Checks.states(q) + " " + q.cuts());
    }

    /** Both at once. */
    private static void lostAndNotAlike() {
        BranchQuarry q = alike();
        q.begin('b', 'f');
        q.cutByLikeness(0, 1);
        q.offer(2, 2, 0, 0);
        q.solve(1);
        q.addRow('l', 1, 1, 0, 0, 0);
        IS.same("3: begun anew", "o 0", Checks.states(q) + " " + q.cuts());
        IS.same("22: without a best solution", "NoSuchElementException", Checks.answer(q::best));
        BranchQuarry lost = alike();
        lost.begin('b', 'f');
        lost.cutByLikeness(0, 1);
        lost.offer(2, 2, 0, 0);
        lost.solve(1);
        lost.addRow('l', 3, 1, 1, 0, 0);
        IS.same("7: still alike", true, lost.areAlike(0, 1));
        IS.same("3: begun anew as it is lost", "o 0", Checks.states(lost) + " " + lost.cuts());
        IS.fails("22: it is lost", lost, NoSuchElementException.class, lost::best);
    }

    /** "If there are 8 rows": the eighth one may begin the tree anew, a ninth one changes nothing. */
    private static void eightRowsAndATree() {
        BranchQuarry q = five();
        for (int k = 1; k < 7; k++) {
            q.addRow('l', 9, 1, 0, 0, 0);
        }
        IS.same("3: seven rows that the best solution keeps", 3, q.nodes());
        IS.same("3: the eighth one, which it does not keep", 7, q.addRow('l', 4, 1, 0, 0, 0));
        IS.same("3: begun anew", 1, q.nodes());
        q.solve(41);
        IS.same("3: it counts", Checks.fraction(-4, 1), q.best());
        IS.fails("3: a ninth one, which the best solution would not keep", q, IllegalStateException.class,
                () -> q.addRow('l', 3, 1, 0, 0, 0));
        BranchQuarry wrong = five();
        IS.fails("3: a wrong one", wrong, IllegalArgumentException.class, () -> wrong.addRow('l', 4, 1, 1, 0, 0));
        IS.same("3: has no number", 1, wrong.addRow('l', 9, 1, 0, 0, 0));
    }
}
