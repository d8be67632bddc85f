import java.util.NoSuchElementException;

/** The boundary cases that the document names for the promises 20 to 24, each with its sentence. */
public final class SolutionsBoundariesTest {
    private static final Checks IS = new Checks();
    private static final Class<IndexOutOfBoundsException> NONE = IndexOutOfBoundsException.class;
    private static final Class<IllegalStateException> STATE = IllegalStateException.class;
    private static final Class<NoSuchElementException> NOTHING = NoSuchElementException.class;
    private static final Class<UnsupportedOperationException> NO = UnsupportedOperationException.class;
    private static final int[] FAR = {Integer.MIN_VALUE, Integer.MIN_VALUE + 1, -65536, 65536, 1 << 30, -(1 << 30),
        Integer.MAX_VALUE};

    public static void main(String[] args) {
        offersAroundTheBounds();
        offersInToldBounds();
        offersOfFarNumbers();
        offersWithoutMeaning();
        offersOfLessCost();
        offersWithoutATree();
        offersAreNoPoints();
        nearestWholeNumbers();
        fourAtOnce();
        othersStay();
        roundedOfLessCost();
        roundedWithoutAPoint();
        bestOrNone();
        numbersOfSolutions();
        at6000Points();
        columnsThatAreNotWhole();
        everyPointIsTried();
        noPointIsASolution();
        toldBoundsAreTried();
        IS.end("SolutionsBoundariesTest");
    }

    // Promise 20.

    /** "A solution is a point that is in the bounds as they were told, keeps all rows, and ...". */
    private static void offersAroundTheBounds() {
        for (int x = -4; x <= 5; x++) {
            for (int y = -1; y <= 6; y++) {
                BranchQuarry q = new BranchQuarry();
                q.addColumn(1, -2, 3, true);
                q.addColumn(-1, 1, 4, false);
                q.addRow('l', 9, 1, 2, 0, 0);
                q.addRow('g', -4, 1, -1, 0, 0);
                q.begin('b', 'f');
                boolean isDue = x >= -2 && x <= 3 && y >= 1 && y <= 4 && x + 2 * y <= 9 && x - y >= -4;
                IS.same("20: (" + x + ", " + y + ")", isDue, q.offer(x, y, 0, 0));
                IS.same("22: its cost", isDue ? "" + Checks.fraction(x - y, 1) : "NoSuchElementException",
                        Checks.answer(q::best));
            }
        }
    }

    /** The bounds as they were told, both of them, for each of four columns. */
    private static void offersInToldBounds() {
        for (int j = 0; j < 4; j++) {
            for (int value = -9; value <= 9; value++) {
                BranchQuarry q = new BranchQuarry();
                for (int k = 0; k < 4; k++) {
                    q.addColumn(0, -3 - k, 2 + k, true);
                }
                q.begin('d', 'h');
                int[] at = {1, 1, 1, 1};
                at[j] = value;
                IS.same("20: " + value + " for column " + j, value >= -3 - j && value <= 2 + j,
                        q.offer(at[0], at[1], at[2], at[3]));
            }
        }
    }

    /** Numbers so far off that sums of ints would wrap around. */
    private static void offersOfFarNumbers() {
        BranchQuarry q = Programs.columns(-9, 9, 9, -9, 9, -9);
        q.addRow('l', 99, 5, -5, 5, -5);
        q.addRow('g', -99, 4, 4, 4, 4);
        q.begin('b', 'f');
        for (int far : FAR) {
            IS.same("20: " + far + " for column 0", false, q.offer(far, 0, 0, 0));
            IS.same("20: " + far + " for column 1", false, q.offer(0, far, 0, 0));
            IS.same("20: " + far + " for column 2", false, q.offer(0, 0, far, 0));
            IS.same("20: " + far + " for column 3", false, q.offer(0, 0, 0, far));
            IS.same("20: " + far + " for all", false, q.offer(far, far, far, far));
        }
        IS.fails("22: none of these", q, NOTHING, q::best);
    }

    /** "Those of columns that are not there have no meaning." */
    private static void offersWithoutMeaning() {
        for (int columns = 1; columns <= 4; columns++) {
            for (int far : FAR) {
                BranchQuarry q = Programs.columns(-1, 1, java.util.Arrays.copyOf(new int[] {1, 1, 1, 1}, columns));
                q.addRow('e', 1, 1, 0, 0, 0);
                q.begin('b', 'f');
                boolean isTaken = q.offer(1, columns > 1 ? 0 : far, columns > 2 ? 0 : far, columns > 3 ? 0 : far);
                IS.same("20: " + far + " behind " + columns + " columns", true, isTaken);
                IS.same("22: does not count", Checks.fraction(1, 1), q.best());
                for (int j = columns; j < 4; j++) {
                    int none = j;
                    IS.fails("23: no column " + j, q, NONE, () -> q.solution(none));
                }
            }
        }
    }

    /** "As its cost is less than that of the best one ahead, or there was none." */
    private static void offersOfLessCost() {
        BranchQuarry q = Programs.columns(-9, 9, 1, 1);
        q.begin('b', 'f');
        IS.same("20: there was none", true, q.offer(9, 9, 0, 0));
        IS.same("20: 18 again", false, q.offer(9, 9, 0, 0));
        IS.same("20: 17", true, q.offer(8, 9, 0, 0));
        IS.same("20: 17, another point", false, q.offer(9, 8, 0, 0));
        IS.same("23: the first one of both", Checks.fraction(8, 1), q.solution(0));
        IS.same("20: 18", false, q.offer(9, 9, 0, 0));
        IS.same("20: 0", true, q.offer(-1, 1, 0, 0));
        IS.same("20: 0, another point", false, q.offer(0, 0, 0, 0));
        IS.same("20: -18", true, q.offer(-9, -9, 0, 0));
        IS.same("20: -17", false, q.offer(-8, -9, 0, 0));
        q.begin('b', 'f');
        IS.same("20: a new tree has none", true, q.offer(9, 9, 0, 0));
        BranchQuarry thirds = new BranchQuarry();
        thirds.addColumn(-1, 0, 9, false);
        thirds.addRow('l', 8, 3, 0, 0, 0);
        thirds.begin('b', 'f');
        IS.same("20: -2", true, thirds.offer(2, 0, 0, 0));
        thirds.solve(1);
        IS.same("22: -8/3", Checks.fraction(-8, 3), thirds.best());
        IS.same("20: -2 is not less than -8/3", false, thirds.offer(2, 0, 0, 0));
    }

    /** "If there is no tree." */
    private static void offersWithoutATree() {
        BranchQuarry q = Programs.columns(0, 1, 0);
        IS.fails("20: no tree", q, STATE, () -> q.offer(0, 0, 0, 0));
        IS.fails("20: no tree, and no solution", q, STATE, () -> q.offer(2, 0, 0, 0));
        q.begin('b', 'f');
        IS.same("20: a tree", true, q.offer(0, 0, 0, 0));
        BranchQuarry none = new BranchQuarry();
        IS.fails("20: no columns", none, STATE, () -> none.offer(0, 0, 0, 0));
    }

    /** A solution must keep rows, not cuts, and solves no node. */
    private static void offersAreNoPoints() {
        BranchQuarry q = Programs.columns(0, 1, -1, -1);
        q.begin('b', 'f');
        q.cutByLikeness(0, 1);
        IS.same("20: a point that the cut takes away", true, q.offer(0, 1, 0, 0));
        IS.same("13: the node 0 is still open", 'o', q.state(0));
        IS.same("32: the cut is no older", 0, q.age(0));
    }

    // Promise 21.

    /** "Whole columns to the nearest whole number, up from the middle." */
    private static void nearestWholeNumbers() {
        for (int bottom = 1; bottom <= 5; bottom++) {
            for (int top = -9 * bottom; top <= 9 * bottom; top++) {
                // The whole number whose distance is least, and the greater one of two such.
                int nearest = -9;
                for (int whole = -8; whole <= 9; whole++) {
                    if (Math.abs(whole * bottom - top) <= Math.abs(nearest * bottom - top)) {
                        nearest = whole;
                    }
                }
                isRounded('g', 1, top, bottom, nearest, nearest * bottom >= top);
                isRounded('l', -1, top, bottom, nearest, nearest * bottom <= top);
            }
        }
    }

    /** All whole columns of up to 4. */
    private static void fourAtOnce() {
        BranchQuarry q = Programs.columns(-9, 9, 1, 1, 1, 1);
        q.addRow('g', 5, 2, 0, 0, 0);
        q.addRow('g', -5, 0, 2, 0, 0);
        q.addRow('g', 5, 0, 0, 3, 0);
        q.addRow('g', -6, 0, 0, 0, 5);
        q.begin('b', 'f');
        q.solve(1);
        IS.same("17: 5/2, -5/2, 5/3 and -6/5", Checks.fraction(7, 15), q.value(0));
        IS.same("21: four columns", true, q.round(0));
        IS.same("23: 3, -2, 2 and -1", "300001 -199999 200001 -99999", q.solution(0) + " " + q.solution(1) + " "
                + q.solution(2) + " " + q.solution(3));
        IS.same("22: the sum", Checks.fraction(2, 1), q.best());
    }

    private static void isRounded(char sense, int cost, int top, int bottom, int nearest, boolean isInside) {
        BranchQuarry q = Programs.columns(-9, 9, cost);
        q.addRow(sense, top, bottom, 0, 0, 0);
        q.begin('b', 'f');
        q.solve(1);
        // A point of whole numbers is the best solution already.
        boolean isDue = isInside && top % bottom != 0;
        String what = top + "/" + bottom + " by " + sense;
        IS.same("21: " + what + " to " + nearest, isDue, q.round(0));
        IS.same("23: " + what, isInside ? "" + Checks.fraction(nearest, 1) : "NoSuchElementException",
                Checks.answer(() -> q.solution(0)));
    }

    /** "The others stay." */
    private static void othersStay() {
        for (int bottom = 2; bottom <= 5; bottom++) {
            for (int top = -9; top <= 9; top++) {
                BranchQuarry q = new BranchQuarry();
                q.addColumn(1, -9, 9, false);
                q.addColumn(1, 0, 9, true);
                q.addRow('e', top, bottom, 0, 0, 0);
                q.addRow('g', 1, 0, 2, 0, 0);
                q.begin('b', 'f');
                q.solve(1);
                long other = q.point(0, 0);
                IS.same("21: beside " + top + "/" + bottom, true, q.round(0));
                IS.same("23: it stays", other, q.solution(0));
                IS.same("23: 1/2 to 1", Checks.fraction(1, 1), q.solution(1));
            }
        }
    }

    /** "Whether it is a solution, and the best one now, as for offer." */
    private static void roundedOfLessCost() {
        for (int offered = 2; offered <= 5; offered++) {
            // 5/2 is rounded to 3, of the cost 3.
            BranchQuarry q = Programs.columns(0, 9, 1);
            q.addRow('g', 5, 2, 0, 0, 0);
            q.begin('b', 'f');
            q.solve(1);
            IS.same("20: the cost " + offered, offered > 2, q.offer(offered, 0, 0, 0));
            IS.same("21: 3 against it", offered != 3, q.round(0));
            IS.same("22: the best one", Checks.fraction(3, 1), q.best());
            IS.same("21: 3 against 3", false, q.round(0));
        }
        BranchQuarry bound = Programs.two('b', 'f');
        bound.solve(41);
        IS.same("13: a node that is closed by its bound", 'b', bound.state(5));
        IS.same("21: may be rounded", false, bound.round(5));
        IS.same("13: and one that is a solution", 's', bound.state(3));
        IS.same("21: may be rounded", false, bound.round(3));
    }

    /** "If it is open, or has no point." */
    private static void roundedWithoutAPoint() {
        BranchQuarry q = Programs.two();
        IS.fails("21: no tree", q, NONE, () -> q.round(0));
        q.begin('b', 'f');
        IS.fails("21: open", q, NOTHING, () -> q.round(0));
        IS.fails("21: no node 1", q, NONE, () -> q.round(1));
        q.solve(41);
        for (int k = 0; k < 11; k++) {
            int node = k;
            IS.same("21: the node " + k + ", " + q.state(k), q.state(k) == 'i' ? "NoSuchElementException" : "false",
                    Checks.answer(() -> q.round(node)));
        }
        IS.fails("21: no node 11", q, NONE, () -> q.round(11));
    }

    // Promises 22 and 23.

    /** "If there is none"; "if there is no best solution". */
    private static void bestOrNone() {
        BranchQuarry q = Programs.columns(0, 9, 2, 0);
        IS.fails("22: no tree", q, NOTHING, q::best);
        IS.fails("23: no tree", q, NOTHING, () -> q.solution(1));
        q.begin('b', 'f');
        IS.fails("22: a tree", q, NOTHING, q::best);
        IS.fails("23: a tree", q, NOTHING, () -> q.solution(1));
        q.offer(10, 0, 0, 0);
        IS.fails("22: no solution was offered", q, NOTHING, q::best);
        q.offer(4, 7, 0, 0);
        IS.same("22: one was offered", Checks.fraction(8, 1), q.best());
        IS.same("23: its values", "400001 700001", q.solution(0) + " " + q.solution(1));
        q.solve(1);
        IS.same("22: a cost of 0", 1L, q.best());
        IS.same("23: values of 0", "1 1", q.solution(0) + " " + q.solution(1));
        q.begin('d', 'f');
        IS.fails("22: a new tree", q, NOTHING, q::best);
    }

    /** "If there is no such column." */
    private static void numbersOfSolutions() {
        for (int columns = 1; columns <= 4; columns++) {
            BranchQuarry q = Programs.columns(-3, 3, new int[columns]);
            q.begin('b', 'f');
            q.offer(3, 3, 3, 3);
            for (int number = -2; number <= 5; number++) {
                int column = number;
                IS.same("23: column " + column + " of " + columns,
                        column >= 0 && column < columns ? "300001" : "IndexOutOfBoundsException",
                        Checks.answer(() -> q.solution(column)));
            }
            for (int far : FAR) {
                IS.fails("23: column " + far, q, NONE, () -> q.solution(far));
            }
        }
    }

    // Promise 24.

    private static BranchQuarry sized(int... counts) {
        BranchQuarry q = new BranchQuarry();
        for (int count : counts) {
            q.addColumn(1, -9, -10 + count, true);
        }
        return q;
    }

    /** "More than 6000 points in the bounds as they were told"; there are no bounds with 6001 to 6005. */
    private static void at6000Points() {
        int[][] sizes = {{15, 10, 10, 4}, {10, 10, 10, 6}, {12, 10, 10, 5}, {16, 15, 5, 5}, {19, 19, 16, 1},
            {18, 18, 18, 1}, {19, 15, 7, 3}, {1, 1, 1, 1}, {19, 1, 1, 1}, {14, 13, 11, 3}, {6, 7, 11, 13},
            {19, 19, 17, 1}, {19, 18, 18, 1}, {10, 10, 10, 7}, {19, 19, 19, 19}, {9, 9, 9, 9}};
        for (int[] size : sizes) {
            int points = size[0] * size[1] * size[2] * size[3];
            BranchQuarry q = sized(size);
            IS.same("24: " + points + " points", points > 6000 ? "UnsupportedOperationException" : "-36",
                    Checks.answer(q::bestByAll));
        }
        IS.same("24: 6859 points of three columns", "UnsupportedOperationException",
                Checks.answer(sized(19, 19, 19)::bestByAll));
        IS.same("24: 361 points of two columns", "-18", Checks.answer(sized(19, 19)::bestByAll));
        IS.same("24: 19 points of one column", "-9", Checks.answer(sized(19)::bestByAll));
    }

    /** "If a column is not whole." */
    private static void columnsThatAreNotWhole() {
        for (int set = 0; set < 16; set++) {
            BranchQuarry q = new BranchQuarry();
            for (int j = 0; j < 4; j++) {
                q.addColumn(1, 2, 2, (set >> j & 1) != 0);
            }
            IS.same("24: whole columns " + set, set == 15 ? "8" : "UnsupportedOperationException",
                    Checks.answer(q::bestByAll));
        }
    }

    /** "Found by trying all points": each point of a box in its turn is the only solution. */
    private static void everyPointIsTried() {
        int[] costs = {5, -3, 7, -9};
        int[] lowers = {-2, 3, -7, 0};
        int[] uppers = {0, 4, -6, 1};
        for (int a = -3; a <= 1; a++) {
            for (int b = 2; b <= 5; b++) {
                for (int c = -8; c <= -5; c++) {
                    for (int d = -1; d <= 2; d++) {
                        int[] at = {a, b, c, d};
                        BranchQuarry q = new BranchQuarry();
                        boolean isInside = true;
                        int cost = 0;
                        for (int j = 0; j < 4; j++) {
                            q.addColumn(costs[j], lowers[j], uppers[j], true);
                            isInside &= at[j] >= lowers[j] && at[j] <= uppers[j];
                            cost += costs[j] * at[j];
                        }
                        for (int j = 0; j < 4; j++) {
                            q.addRow('e', at[j], j == 0 ? 1 : 0, j == 1 ? 1 : 0, j == 2 ? 1 : 0, j == 3 ? 1 : 0);
                        }
                        IS.same("24: (" + a + ", " + b + ", " + c + ", " + d + ")",
                                isInside ? "" + cost : "NoSuchElementException", Checks.answer(q::bestByAll));
                    }
                }
            }
        }
        BranchQuarry least = Programs.columns(-9, -6, 9, 9, 9, 9);
        IS.same("24: the least cost there can be", -324, least.bestByAll());
        BranchQuarry greatest = Programs.columns(9, 9, 9, 9, 9, 9);
        IS.same("24: the greatest cost there can be", 324, greatest.bestByAll());
    }

    /** "If there is no solution." */
    private static void noPointIsASolution() {
        BranchQuarry q = Programs.columns(0, 9, 1);
        q.addRow('g', 9, 1, 0, 0, 0);
        IS.same("24: 9 alone", 9, q.bestByAll());
        q.addRow('l', 17, 2, 0, 0, 0);
        IS.fails("24: not 9 either", q, NOTHING, q::bestByAll);
        BranchQuarry odd = Programs.columns(-9, 9, 1, 1);
        odd.addRow('e', 2, 2, 2, 0, 0);
        IS.same("24: 2x + 2y = 2", 1, odd.bestByAll());
        odd.addRow('e', 1, 2, 4, 0, 0);
        IS.fails("24: 2x + 4y = 1", odd, NOTHING, odd::bestByAll);
        BranchQuarry none = new BranchQuarry();
        none.addRow('g', 0, 0, 0, 0, 0);
        IS.same("24: the empty point", 0, none.bestByAll());
        none.addRow('g', 1, 0, 0, 0, 0);
        IS.fails("24: not the empty point", none, NOTHING, none::bestByAll);
    }

    /** "In the bounds as they were told", tight ones or not. */
    private static void toldBoundsAreTried() {
        BranchQuarry q = sized(19, 19, 17);
        q.addRow('l', -9, 1, 0, 0, 0);
        IS.same("4: x is -9", 1, q.tighten());
        IS.fails("24: 6137 points as they were told", q, NO, q::bestByAll);
        BranchQuarry tree = Programs.two('b', 'f');
        tree.solve(41);
        tree.addRow('l', 2, 0, 1, 0, 0);
        IS.same("24: a row told while there is a tree", -11, tree.bestByAll());
    }
}
