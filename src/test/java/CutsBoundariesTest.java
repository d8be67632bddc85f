import java.util.NoSuchElementException;

/** The boundary cases that the document names for the promises 25 to 33, each with its sentence. */
public final class CutsBoundariesTest {
    private static final Checks IS = new Checks();
    private static final Class<IllegalArgumentException> WRONG = IllegalArgumentException.class;
    private static final Class<IllegalStateException> STATE = IllegalStateException.class;
    private static final Class<IndexOutOfBoundsException> NONE = IndexOutOfBoundsException.class;
    private static final Class<NoSuchElementException> NOTHING = NoSuchElementException.class;
    private static final Class<UnsupportedOperationException> NO = UnsupportedOperationException.class;
    private static final int[] FAR = {Integer.MIN_VALUE, -65536, -1, 16, 41, 65536, Integer.MAX_VALUE};

    public static void main(String[] args) {
        sixteenCutsByRounding();
        sixteenCutsByCovers();
        sixteenCutsByLikeness();
        sixteenCutsWithConflicts();
        divisors();
        numbersOfNodesAndRows();
        roundedDown();
        roundedOverTwoColumns();
        roundedAtTheBoundsOfTheNode();
        roundedRowsOfWholeColumns();
        trueAtTheNodeAndBelow();
        coversOrNot();
        coversOfFourColumns();
        coversOfSwitchesAlone();
        coversBySign();
        coversBySide();
        coversByValues();
        coversLeftOut();
        coversLiftedAtTheSide();
        coversAtTheNode0();
        likenessOfPairs();
        likenessNumbers();
        conflictsBySwitchesAlone();
        conflictsByAllColumnsAbove();
        conflictsBySides();
        noConflictAtTheNode0();
        conflictsAreTrueAtAllNodes();
        coversAreTrueAtAllNodes();
        likenessIsTrueAtAllNodes();
        numbersOfCuts();
        numbersOfCutsAndColumns();
        ageGrowsOrEnds();
        ageThreeMayEnd();
        ageFourStays();
        agesWhereTheCutIsTrue();
        gainsRoundedDown();
        gainsRoundedUpSide();
        meanGains();
        meanGainsUnderZero();
        numbersOfGains();
        IS.end("CutsBoundariesTest");
    }

    /** Makes cuts by rounding of the row 0 until there are as many as that. */
    private static void fill(BranchQuarry q, int count) {
        for (int k = q.cuts(); k < count; k++) {
            IS.same("25: the number of a cut", k, q.cutByRounding(0, 0, 5));
        }
    }

    // "At most 16 cuts are made in a tree, numbered from 0": promises 25, 26, 27 and 10.

    private static void sixteenCutsByRounding() {
        BranchQuarry q = Programs.two('b', 'f');
        fill(q, 15);
        IS.same("25: the last cut", 15, q.cutByRounding(0, 1, 2));
        for (int k = 0; k < 3; k++) {
            IS.fails("25: 16 cuts were made", q, STATE, () -> q.cutByRounding(0, 1, 2));
        }
        IS.same("28: 16", 16, q.cuts());
        q.solve(41);
        IS.same("32: dropped", 4, q.age(0));
        IS.fails("25: dropped ones among them", q, STATE, () -> q.cutByRounding(0, 1, 2));
        q.begin('b', 'f');
        IS.same("25: a new tree", 0, q.cutByRounding(0, 1, 2));
        q.solve(41);
        q.addRow('g', 2, 1, 0, 0, 0);
        IS.same("25: a tree begun anew", 0, q.cutByRounding(0, 1, 2));
    }

    private static void sixteenCutsByCovers() {
        BranchQuarry q = Programs.switches(-1, -1);
        q.addRow('l', 3, 2, 2, 0, 0);
        q.begin('b', 'f');
        q.solve(1);
        fill(q, 15);
        IS.same("26: the last cut", 15, q.cutByCover(0));
        IS.fails("26: 16 cuts were made", q, STATE, () -> q.cutByCover(0));
        IS.same("29: of its kind", 'c', q.kind(15));
    }

    private static void sixteenCutsByLikeness() {
        BranchQuarry q = Programs.switches(-1, -1);
        q.addRow('l', 3, 2, 2, 0, 0);
        q.begin('b', 'f');
        for (int k = 0; k < 16; k++) {
            IS.same("27: the same cut again", k, q.cutByLikeness(0, 1));
        }
        IS.fails("27: 16 cuts were made", q, STATE, () -> q.cutByLikeness(0, 1));
        IS.same("29: of its kind", 'y', q.kind(15));
    }

    /** "And fewer than 16 cuts were made": 2x + 2y = 1 makes three conflicts if there is room. */
    private static void sixteenCutsWithConflicts() {
        for (int filled = 0; filled <= 16; filled++) {
            BranchQuarry q = Programs.switches(0, 0);
            q.addRow('e', 1, 2, 2, 0, 0);
            q.begin('b', 'f');
            fill(q, filled);
            q.solve(41);
            IS.same("13: all nodes, behind " + filled, "ppiii", Checks.states(q));
            int due = Math.min(16, filled + 3);
            IS.same("28: conflicts behind " + filled, due, q.cuts());
            String[] kinds = {"k 0 1 <= 0", "k -1 -1 <= -1", "k 1 -1 <= 0"};
            for (int k = filled; k < due; k++) {
                IS.same("10: the conflict " + (k - filled), kinds[k - filled], Checks.cut(q, k, 2));
            }
        }
    }

    // Promise 25.

    /** "The divisor, 2 to 5." */
    private static void divisors() {
        BranchQuarry refused = Programs.two('b', 'f');
        for (int number = -6; number <= 8; number++) {
            int divisor = number;
            boolean isDue = divisor >= 2 && divisor <= 5;
            BranchQuarry q = isDue ? Programs.two('b', 'f') : refused;
            IS.same("25: the divisor " + divisor, isDue ? "0" : "IllegalArgumentException",
                    Checks.answer(() -> q.cutByRounding(0, 0, divisor)));
        }
        for (int far : new int[] {Integer.MIN_VALUE, Integer.MAX_VALUE, 65538, -65534}) {
            IS.fails("25: the divisor " + far, refused, WRONG, () -> refused.cutByRounding(0, 0, far));
        }
        IS.same("28: none of the refused ones was made", 0, refused.cuts());
    }

    /** "If there is no such node or row." */
    private static void numbersOfNodesAndRows() {
        for (int rows = 0; rows <= 8; rows++) {
            BranchQuarry q = Programs.columns(0, 9, -1);
            for (int k = 0; k < rows; k++) {
                q.addRow('l', 9, 2, 0, 0, 0);
            }
            q.begin('b', 'f');
            q.solve(1);
            int nodes = q.nodes();
            IS.same("11: of " + rows + " rows", rows == 0 ? 1 : 3, nodes);
            for (int k = -1; k <= nodes; k++) {
                for (int row : new int[] {-1, 0, rows - 1, rows, rows + 1}) {
                    int node = k;
                    boolean isDue = node >= 0 && node < nodes && row >= 0 && row < rows;
                    IS.same("25: node " + node + ", row " + row + " of " + rows,
                            isDue ? "" + q.cuts() : "IndexOutOfBoundsException",
                            Checks.answer(() -> q.cutByRounding(node, row, 2)));
                }
            }
            for (int far : FAR) {
                IS.fails("25: node " + far, q, NONE, () -> q.cutByRounding(far, 0, 2));
                IS.fails("25: row " + far, q, NONE, () -> q.cutByRounding(0, far, 2));
                IS.fails("26: row " + far, q, NONE, () -> q.cutByCover(far));
            }
            int none = rows;
            IS.fails("26: row " + rows, q, NONE, () -> q.cutByCover(none));
        }
    }

    /** The greatest whole number whose product with the divisor is at most the number. */
    private static int down(int number, int divisor) {
        int least = -1000;
        while ((least + 1) * divisor <= number) {
            least++;
        }
        return least;
    }

    /** "Rounded down", with coefficients, sides and bounds less than 0, for each sense. */
    private static void roundedDown() {
        for (int divisor = 2; divisor <= 5; divisor++) {
            for (int factor = -5; factor <= 5; factor++) {
                for (int lower = -9; lower <= 9; lower += 3) {
                    for (int side = -11; side <= 11; side += 2) {
                        isRoundedDown('l', 1, divisor, factor, lower, side);
                        isRoundedDown('e', 1, divisor, factor, lower, side);
                        isRoundedDown('g', -1, divisor, factor, lower, side);
                    }
                }
            }
        }
    }

    /** "A row of sense 'e' is taken as it stands, one of sense 'g' with all signs turned." */
    private static void isRoundedDown(char sense, int sign, int divisor, int factor, int lower, int side) {
        BranchQuarry q = Programs.columns(lower, 9, 0);
        q.addRow(sense, side, factor, 0, 0, 0);
        q.begin('b', 'f');
        q.cutByRounding(0, 0, divisor);
        int due = down(sign * factor, divisor);
        int left = sign * side - sign * factor * lower;
        IS.same("25: " + factor + " " + sense + " " + side + " from " + lower + " by " + divisor,
                "r " + due + " <= " + (down(left, divisor) + due * lower), Checks.cut(q, 0, 1));
    }

    private static void roundedOverTwoColumns() {
        for (int a = -5; a <= 5; a += 2) {
            for (int b = -4; b <= 5; b += 3) {
                for (int side = -99; side <= 99; side += 33) {
                    BranchQuarry q = new BranchQuarry();
                    q.addColumn(0, -7, 9, true);
                    q.addColumn(0, 4, 9, true);
                    q.addRow('l', side, a, b, 0, 0);
                    q.begin('b', 'f');
                    q.cutByRounding(0, 0, 3);
                    int left = side - a * -7 - b * 4;
                    int due = down(left, 3) + down(a, 3) * -7 + down(b, 3) * 4;
                    IS.same("25: " + a + " and " + b + " by 3, side " + side,
                            "r " + down(a, 3) + " " + down(b, 3) + " <= " + due, Checks.cut(q, 0, 2));
                }
            }
        }
        BranchQuarry all = Programs.columns(-9, 9, 0, 0, 0, 0);
        all.addRow('l', 99, 5, 5, 5, 5);
        all.addRow('g', 99, 5, 5, 5, 5);
        all.begin('b', 'f');
        all.cutByRounding(0, 0, 2);
        // (99 + 180) by 2 is 139, and 4 times 2 times -9 is -72.
        IS.same("25: far sides", "r 2 2 2 2 <= 67", Checks.cut(all, 0, 4));
        all.cutByRounding(0, 1, 2);
        // (-99 - 180) by 2 is -140, and 4 times -3 times -9 is 108.
        IS.same("25: far sides, turned", "r -3 -3 -3 -3 <= -32", Checks.cut(all, 1, 4));
    }

    /** "If all columns have the lower bounds of the node", and not the told or the tight ones. */
    private static void roundedAtTheBoundsOfTheNode() {
        BranchQuarry q = Programs.columns(0, 9, 1);
        q.addRow('g', 7, 2, 0, 0, 0);
        q.addRow('l', 17, 3, 0, 0, 0);
        q.addRow('g', 1, 1, 0, 0, 0);
        q.begin('b', 'f');
        q.solve(1);
        IS.same("15: told, the node 1 and the node 2", "0 0 4",
                q.lower(0) + " " + q.lowerAt(1, 0) + " " + q.lowerAt(2, 0));
        q.cutByRounding(0, 1, 2);
        q.cutByRounding(1, 1, 2);
        q.cutByRounding(2, 1, 2);
        // 17 by 2 is 8; 17 less 3 times 4 is 5, by 2 it is 2, and 1 times 4 more is 6.
        IS.same("25: at the node 0", "r 1 <= 8", Checks.cut(q, 0, 1));
        IS.same("25: at the node 1", "r 1 <= 8", Checks.cut(q, 1, 1));
        IS.same("25: at the node 2", "r 1 <= 6", Checks.cut(q, 2, 1));
    }

    /** "If a column that is not whole has a coefficient other than 0." */
    private static void roundedRowsOfWholeColumns() {
        for (int whole = 0; whole < 16; whole++) {
            for (int used = 0; used < 16; used++) {
                BranchQuarry q = new BranchQuarry();
                int[] co = new int[4];
                for (int j = 0; j < 4; j++) {
                    q.addColumn(0, -1, 1, (whole >> j & 1) != 0);
                    co[j] = (used >> j & 1) == 0 ? 0 : j % 2 == 0 ? 1 : -1;
                }
                q.addRow('l', 3, co[0], co[1], co[2], co[3]);
                q.begin('b', 'f');
                IS.same("25: whole columns " + whole + ", coefficients " + used,
                        (used & ~whole) == 0 ? "0" : "UnsupportedOperationException",
                        Checks.answer(() -> q.cutByRounding(0, 0, 2)));
            }
        }
    }

    /** "True at the node and those that come of it", told by its age, which grows where it has a point. */
    private static void trueAtTheNodeAndBelow() {
        for (int home = 0; home <= 2; home++) {
            BranchQuarry q = Programs.columns(-9, 9, 0, 0, 0);
            q.addRow('e', 1, 2, 2, 2, 0);
            q.begin('b', 'f');
            q.solve(1);
            q.cutByRounding(home, 0, 5);
            int due = 0;
            for (int k = 1; k <= 6 && due < 4; k++) {
                int above = k;
                while (above > home) {
                    above = q.parent(above);
                }
                q.solve(1);
                due += above == home && q.state(k) != 'i' ? 1 : 0;
                IS.same("32: at the node " + k + " the cut of the node " + home, due, q.age(0));
            }
        }
    }

    // Promise 26.

    private static String coverOf(BranchQuarry q, int columns) {
        q.begin('b', 'f');
        q.solve(1);
        return Checks.answer(() -> Checks.cut(q, q.cutByCover(0), columns));
    }

    /** "Until the sum of their coefficients is greater than the side"; "or has no cover". */
    private static void coversOrNot() {
        for (int a = 1; a <= 5; a++) {
            for (int b = 1; b <= 5; b++) {
                for (int side = 0; side <= 11; side++) {
                    BranchQuarry q = Programs.switches(-9, -9);
                    q.addRow('l', side, a, b, 0, 0);
                    boolean isDue = a + b > side;
                    IS.same("26: " + a + " and " + b + " with the side " + side, isDue,
                            !coverOf(q, 2).equals("UnsupportedOperationException"));
                    IS.same("28: made or not", isDue ? 1 : 0, q.cuts());
                }
            }
        }
    }

    /** No cover of four columns, and one that leaves column 0 out, or follows another cover. */
    private static void coversOfFourColumns() {
        int[] all = {-1, -1, -1, -1};
        IS.same("26: 4 times 1 is not greater than 4", "UnsupportedOperationException", coverBy(all, 4, 1, 1, 1, 1));
        IS.same("26: 4 times 1 is greater than 3", "c 1 1 1 1 <= 3", coverBy(all, 3, 1, 1, 1, 1));
        IS.same("26: 14 is not greater than 14", "UnsupportedOperationException", coverBy(all, 14, 5, 4, 3, 2));
        IS.same("26: 14 is greater than 13", "c 1 1 1 1 <= 3", coverBy(all, 13, 5, 4, 3, 2));
        int[] last = {0, -1, -1, -1};
        IS.same("26: columns 1, 2 and 3, and column 0 is 2", "c 2 1 1 1 <= 2", coverBy(last, 5, 4, 2, 2, 2));
        BranchQuarry q = Programs.switches(last);
        q.addRow('l', 5, 4, 2, 2, 2);
        q.addRow('l', 5, 4, 2, 0, 0);
        q.begin('b', 'f');
        q.solve(1);
        IS.same("26: the row 1 first", "0 c 1 1 0 0 <= 1", q.cutByCover(1) + " " + Checks.cut(q, 0, 4));
        IS.same("26: then the row 0", "1 c 2 1 1 1 <= 2", q.cutByCover(0) + " " + Checks.cut(q, 1, 4));
        IS.same("26: the row 1 again", "2 c 1 1 0 0 <= 1", q.cutByCover(1) + " " + Checks.cut(q, 2, 4));
    }

    /** "All columns with a coefficient greater than 0 are whole and were told with the bounds 0 and 1". */
    private static void coversOfSwitchesAlone() {
        for (int lower = -2; lower <= 2; lower++) {
            for (int upper = lower; upper <= 3; upper++) {
                for (boolean isWhole : new boolean[] {false, true}) {
                    for (int factor = 0; factor <= 1; factor++) {
                        BranchQuarry q = Programs.switches(-9, -9);
                        q.addColumn(0, lower, upper, isWhole);
                        q.addRow('l', 5, 3, 4, factor, 0);
                        boolean isDue = factor == 0 || isWhole && lower == 0 && upper == 1;
                        IS.same("26: " + factor + " of a column from " + lower + " to " + upper + ", " + isWhole,
                                isDue, !coverOf(q, 3).equals("UnsupportedOperationException"));
                    }
                }
            }
        }
    }

    /** "Without coefficients less than 0 then." */
    private static void coversBySign() {
        String[] due = {"UnsupportedOperationException", "UnsupportedOperationException", "c 1 1 0 <= 1",
            "c 1 1 0 <= 1", "c 1 1 1 <= 1"};
        for (int factor = -2; factor <= 2; factor++) {
            for (char sense : new char[] {'l', 'g', 'e'}) {
                int sign = sense == 'g' ? -1 : 1;
                BranchQuarry q = Programs.switches(-9, -8, 0);
                q.addRow(sense, sign * 4, sign * 4, sign * 3, sign * factor, 0);
                IS.same("26: the coefficient " + factor + " by " + sense, due[factor + 2], coverOf(q, 3));
            }
        }
        BranchQuarry turned = Programs.switches(-9, -9);
        turned.addRow('g', 0, 1, 1, 0, 0);
        IS.same("26: 'g' with coefficients greater than 0", "UnsupportedOperationException", coverOf(turned, 2));
    }

    /** "Or its side is less than 0": such a row leaves no point, so it is told later. */
    private static void coversBySide() {
        for (int side = -2; side <= 1; side++) {
            for (char sense : new char[] {'l', 'g', 'e'}) {
                int sign = sense == 'g' ? -1 : 1;
                BranchQuarry q = Programs.switches(-9, -8);
                q.addRow('l', 3, 2, 2, 0, 0);
                q.begin('b', 'f');
                q.solve(1);
                q.addRow(sense, sign * side, sign * 2, sign * 2, 0, 0);
                IS.same("3: the tree stays", 3, q.nodes());
                IS.same("26: the side " + side + " by " + sense,
                        side < 0 ? "UnsupportedOperationException" : "c 1 0 <= 0",
                        Checks.answer(() -> Checks.cut(q, q.cutByCover(1), 2)));
                IS.same("28: made or not", side < 0 ? 0 : 1, q.cuts());
            }
        }
    }

    /**
     * "Those with the greatest values ... are taken first, of several the ones with the lowest numbers":
     * of 4, 4, 2 and 2 with the side 5, the cover of columns 0 and 2 and that of columns 0 and 3 make
     * other cuts. Each case has the values of columns 0, 2 and 3; column 1 has the value 0.
     */
    private static void coversByValues() {
        int[][] cases = {{1, 2, 1, 3, 1, 4, 2}, {1, 2, 1, 4, 1, 3, 3}, {1, 2, 1, 3, 1, 3, 2}, {1, 2, 1, 3, 2, 5, 3},
            {1, 2, 2, 5, 1, 3, 2}, {1, 3, 1, 2, 2, 3, 3}, {1, 2, 1, 2, 1, 2, 2}, {1, 2, 1, 3, 1, 2, 3},
            {1, 2, 1, 2, 1, 3, 2}, {1, 3, 1, 3, 1, 2, 3}, {1, 3, 1, 2, 1, 3, 2}};
        for (int[] of : cases) {
            BranchQuarry q = Programs.switches(-1, 0, -1, -1);
            q.addRow('l', 5, 4, 4, 2, 2);
            q.addRow('l', of[0], of[1], 0, 0, 0);
            q.addRow('l', of[2], 0, 0, of[3], 0);
            q.addRow('l', of[4], 0, 0, 0, of[5]);
            String cut = coverOf(q, 4);
            String what = "26: " + of[0] + "/" + of[1] + ", " + of[2] + "/" + of[3] + " and " + of[4] + "/" + of[5];
            IS.same("18: the point", Checks.fraction(of[0], of[1]) + " 1 " + Checks.fraction(of[2], of[3]) + " "
                    + Checks.fraction(of[4], of[5]),
                    q.point(0, 0) + " " + q.point(0, 1) + " " + q.point(0, 2) + " " + q.point(0, 3));
            IS.same(what, of[6] == 2 ? "c 1 1 1 0 <= 1" : "c 1 1 0 1 <= 1", cut);
        }
    }

    private static String coverBy(int[] costs, int side, int... row) {
        BranchQuarry q = Programs.switches(costs);
        q.addRow('l', side, row[0], row[1], row[2], row[3]);
        return coverOf(q, 4);
    }

    /** "Is left out again if the sum of the others is still greater than the side", by rising numbers. */
    private static void coversLeftOut() {
        int[] first = {-5, -9, -5, 0};
        IS.same("26: 3 + 5 is greater than 7", "c 0 1 1 0 <= 1", coverBy(first, 7, 1, 3, 5, 0));
        IS.same("26: 3 + 5 is not greater than 8", "c 1 1 1 0 <= 2", coverBy(first, 8, 1, 3, 5, 0));
        int[] second = {-9, -9, -9, 0};
        IS.same("26: 2 + 5 is greater than 6, once", "c 0 1 1 0 <= 1", coverBy(second, 6, 2, 2, 5, 0));
        IS.same("26: 2 + 5 is not greater than 7", "c 1 1 1 0 <= 2", coverBy(second, 7, 2, 2, 5, 0));
        int[] third = {-5, -5, -9, 0};
        IS.same("26: 1 + 5 and 5 are greater than 4", "c 0 0 1 0 <= 0", coverBy(third, 4, 1, 1, 5, 0));
        IS.same("26: 1 + 5 is greater than 5, 5 is not", "c 0 1 1 0 <= 1", coverBy(third, 5, 1, 1, 5, 0));
        IS.same("26: 1 + 5 is not greater than 6", "c 1 1 1 0 <= 2", coverBy(third, 6, 1, 1, 5, 0));
    }

    /** "Whose sum of the row is at most its side minus the coefficient"; "if there is no such choice". */
    private static void coversLiftedAtTheSide() {
        int[] costs = {-5, -5, -5, 0};
        int[] fives = {0, 1, 1, 2, 2};
        int[] fours = {0, 1, 1, 2, 2};
        for (int factor = 1; factor <= 5; factor++) {
            IS.same("26: 2, 2, 2 and " + factor + " with the side 5", "c 1 1 1 " + fives[factor - 1] + " <= 2",
                    coverBy(costs, 5, 2, 2, 2, factor));
            IS.same("26: 2, 2, 1 and " + factor + " with the side 4", "c 1 1 1 " + fours[factor - 1] + " <= 2",
                    coverBy(costs, 4, 2, 2, 1, factor));
        }
        IS.same("26: one of two alike, and the next by it", "c 1 1 1 0 <= 1",
                coverBy(new int[] {-5, -4, 0, 0}, 5, 5, 5, 1, 1));
        IS.same("26: no room at all", "c 1 0 0 0 <= 0", coverBy(new int[] {-5, 0, 0, 0}, 0, 1, 1, 5, 0));
    }

    /** "If there is no tree, or the node 0 is open or has no point": by all states of the node 0. */
    private static void coversAtTheNode0() {
        BranchQuarry q = Programs.switches(-1, -1);
        q.addRow('l', 3, 2, 2, 0, 0);
        IS.fails("26: no tree", q, NOTHING, () -> q.cutByCover(0));
        q.begin('b', 'f');
        IS.fails("26: open", q, NOTHING, () -> q.cutByCover(0));
        q.solve(1);
        IS.same("26: branched", "p 0", q.state(0) + " " + q.cutByCover(0));
        q.begin('b', 'f');
        q.cutByRounding(0, 0, 2);
        q.solve(1);
        IS.same("26: a solution", "s 1", q.state(0) + " " + q.cutByCover(0));
        q.begin('b', 'f');
        q.offer(1, 0, 0, 0);
        q.cutByRounding(0, 0, 2);
        q.solve(1);
        IS.same("26: closed by its bound", "b 1", q.state(0) + " " + q.cutByCover(0));
        q.addRow('g', 4, 2, 2, 0, 0);
        IS.fails("26: open again", q, NOTHING, () -> q.cutByCover(0));
        q.solve(1);
        IS.same("13: no point", 'i', q.state(0));
        IS.fails("26: no point", q, NOTHING, () -> q.cutByCover(0));
    }

    // Promise 27.

    /** "For two that are alike, ... keeps the one with the lower number at least as great as the other". */
    private static void likenessOfPairs() {
        for (int column = 0; column < 4; column++) {
            for (int other = column + 1; other < 4; other++) {
                BranchQuarry q = Programs.columns(0, 3, -1, -2, -1, -2);
                q.begin('b', 'f');
                int first = column;
                int second = other;
                boolean isDue = other - column == 2;
                IS.same("27: " + column + " and " + other, isDue ? "0" : "UnsupportedOperationException",
                        Checks.answer(() -> q.cutByLikeness(first, second)));
                if (isDue) {
                    IS.same("27: the cut", column == 0 ? "y -1 0 1 0 <= 0" : "y 0 -1 0 1 <= 0", Checks.cut(q, 0, 4));
                }
            }
        }
        BranchQuarry kept = Programs.columns(0, 9, 0, 0);
        kept.addRow('e', 9, 1, 1, 0, 0);
        kept.begin('b', 'f');
        kept.cutByLikeness(0, 1);
        kept.solve(1);
        IS.same("27: as great, and not less", "900002 900002", kept.point(0, 0) + " " + kept.point(0, 1));
        IS.same("32: its sum is its side there", 0, kept.age(0));
    }

    /** "If there is no such column, for either"; "if the second one is not greater". */
    private static void likenessNumbers() {
        for (int columns = 1; columns <= 4; columns++) {
            BranchQuarry q = Programs.columns(0, 1, new int[columns]);
            q.begin('b', 'f');
            for (int first = -2; first <= 5; first++) {
                for (int second = -2; second <= 5; second++) {
                    int column = first;
                    int other = second;
                    boolean isThere = Math.min(first, second) >= 0 && Math.max(first, second) < columns;
                    String due = !isThere ? "IndexOutOfBoundsException"
                            : second <= first ? "IllegalArgumentException" : "" + q.cuts();
                    IS.same("27: " + first + " and " + second + " of " + columns, due,
                            Checks.answer(() -> q.cutByLikeness(column, other)));
                }
            }
            for (int far : FAR) {
                IS.fails("27: column " + far, q, NONE, () -> q.cutByLikeness(far, 0));
                IS.fails("27: other " + far, q, NONE, () -> q.cutByLikeness(0, far));
            }
        }
    }

    // Conflicts, which are made by promise 10.

    /** "All columns on which those above it were branched were told whole with the bounds 0 and 1". */
    private static void conflictsBySwitchesAlone() {
        int[][] cases = {{0, 1, 1, 2}, {0, 2, 1, 0}, {0, 2, 3, 0}, {-1, 1, 1, 0}, {-1, 0, -1, 0}, {1, 2, 3, 0},
            {-1, 1, -1, 0}, {0, 9, 1, 0}};
        for (int[] of : cases) {
            for (boolean isTight : new boolean[] {false, true}) {
                BranchQuarry q = Programs.columns(of[0], of[1], 0);
                if (isTight) {
                    q.addRow('l', 1, 1, 0, 0, 0);
                    q.addRow('g', 0, 1, 0, 0, 0);
                    q.tighten();
                }
                q.addRow('e', of[2], 2, 0, 0, 0);
                q.begin('b', 'f');
                q.solve(41);
                int due = isTight && (of[2] < 0 || of[2] > 1) ? 0 : of[3];
                IS.same("28: from " + of[0] + " to " + of[1] + ", 2x = " + of[2] + ", " + isTight, due, q.cuts());
            }
        }
        // x is branched above y, or y alone: the kind of x counts only where it was branched.
        for (int upper = 1; upper <= 2; upper++) {
            BranchQuarry q = new BranchQuarry();
            q.addColumn(0, 0, upper, true);
            q.addColumn(0, 0, 1, true);
            q.addRow('e', 1, 2, 2, 0, 0);
            q.begin('b', 'f');
            q.solve(41);
            IS.same("28: x from 0 to " + upper, upper == 1 ? 3 : 1, q.cuts());
            IS.same("10: y alone", "k 0 1 <= 0", Checks.cut(q, 0, 2));
        }
    }

    /** "1 for each ... whose bounds at the node are both 1, ... and the number of the former ones minus 1". */
    private static void conflictsBySides() {
        BranchQuarry both = Programs.switches(-1, -1, 0);
        both.addRow('l', 7, 4, 4, 0, 0);
        both.begin('d', 'f');
        both.solve(3);
        IS.same("13: the node 4 has no point", "popoi", Checks.states(both));
        IS.same("10: two of 1", "k 1 1 0 <= 1", Checks.cut(both, 0, 3));
        BranchQuarry one = Programs.switches(0);
        one.addRow('e', 1, 2, 0, 0, 0);
        one.begin('b', 'f');
        one.solve(41);
        IS.same("10: none of 1", "k -1 <= -1", Checks.cut(one, 0, 1));
        IS.same("10: one of 1", "k 1 <= 0", Checks.cut(one, 1, 1));
        IS.same("32: new ones", "0 0", one.age(0) + " " + one.age(1));
    }

    /** "When a node other than 0 has no point." */
    private static void noConflictAtTheNode0() {
        BranchQuarry q = Programs.switches(0, 0);
        q.addRow('g', 5, 2, 2, 0, 0);
        q.begin('b', 'f');
        q.solve(41);
        IS.same("28: the node 0 makes none", "i 0", Checks.states(q) + " " + q.cuts());
        BranchQuarry bound = Programs.switches(-1);
        bound.addRow('l', 1, 2, 0, 0, 0);
        bound.begin('b', 'f');
        bound.solve(1);
        bound.offer(0, 0, 0, 0);
        bound.solve(1);
        IS.same("28: a node that is closed by its bound makes none", "pbo 0",
                Checks.states(bound) + " " + bound.cuts());
        bound.solve(1);
        IS.same("28: the next one has no point", "pbi 1", Checks.states(bound) + " " + bound.cuts());
    }

    /** "It is true at all nodes": it grows old in the node 1, of which the node 4 does not come. */
    private static void conflictsAreTrueAtAllNodes() {
        BranchQuarry q = Programs.switches(-1, -1);
        q.addRow('l', 7, 4, 4, 0, 0);
        q.addRow('l', 0, -1, 1, 0, 0);
        q.begin('d', 'f');
        q.solve(3);
        IS.same("10: the node 4 makes it", "popoi k 1 1 <= 1", Checks.states(q) + " " + Checks.cut(q, 0, 2));
        q.solve(1);
        IS.same("32: x is 1 and y is 0 in the node 3", "s 0", q.state(3) + " " + q.age(0));
        q.solve(1);
        IS.same("32: both are 0 in the node 1", "b 1", q.state(1) + " " + q.age(0));
    }

    /** A cover of columns 0 and 1, made while the nodes of column 2 are open: both of them keep it. */
    private static void coversAreTrueAtAllNodes() {
        BranchQuarry q = Programs.switches(-1, -1, -1);
        q.addColumn(1, 0, 1, false);
        q.addRow('l', 5, 3, 3, 0, 0);
        q.addRow('l', 1, 0, 0, 2, -1);
        q.begin('b', 'h');
        q.solve(1);
        IS.same("10: column 2 is branched", "0 1", q.upperAt(1, 2) + " " + q.lowerAt(2, 2));
        IS.same("18: columns 0 and 1", Checks.fraction(2, 3) + " 100001", q.point(0, 0) + " " + q.point(0, 1));
        q.cutByCover(0);
        IS.same("26: the cut", "c 1 1 0 0 <= 1", Checks.cut(q, 0, 4));
        q.solve(1);
        IS.same("18: in the node 1", "1 100001", q.point(1, 0) + " " + q.point(1, 1));
        BranchQuarry last = Programs.switches(-1, -1, -1);
        last.addColumn(1, 0, 1, false);
        last.addRow('l', 5, 3, 3, 0, 0);
        last.addRow('l', 1, 0, 0, 2, -1);
        last.begin('d', 'h');
        last.solve(1);
        last.cutByCover(0);
        last.solve(1);
        IS.same("18: in the node 2", "1 100001", last.point(2, 0) + " " + last.point(2, 1));
    }

    /** x + y <= 9/2 with y at most 3: both nodes of x keep that y is at most x. */
    private static void likenessIsTrueAtAllNodes() {
        for (char order : new char[] {'b', 'd'}) {
            BranchQuarry q = Programs.columns(0, 3, -1, -1);
            q.addRow('l', 9, 2, 2, 0, 0);
            q.begin(order, 'f');
            q.solve(1);
            IS.same("18: x is 3/2", Checks.fraction(3, 2), q.point(0, 0));
            q.cutByLikeness(0, 1);
            q.solve(1);
            int node = order == 'b' ? 1 : 2;
            IS.same("18: x and y in the node " + node, order == 'b' ? "100001 100001" : "900004 900004",
                    q.point(node, 0) + " " + q.point(node, 1));
        }
    }

    /** "All columns on which those above it were branched", not the last one alone. */
    private static void conflictsByAllColumnsAbove() {
        for (int upper = 1; upper <= 2; upper++) {
            BranchQuarry q = new BranchQuarry();
            q.addColumn(0, 0, upper, true);
            q.addColumn(0, 0, 1, true);
            q.addRow('e', 3, 2, 2, 0, 0);
            q.begin('b', 'f');
            q.solve(1);
            IS.same("10: x is branched first", "0 1", q.upperAt(1, 0) + " " + q.lowerAt(2, 0));
            q.solve(41);
            IS.same("10: then y", "0 1", q.upperAt(3, 1) + " " + q.lowerAt(4, 1));
            IS.same("28: x from 0 to " + upper + " above y", upper == 1 ? 3 : 0, q.cuts());
        }
    }

    // Promises 28 to 32.

    /** "If there is no such cut." */
    private static void numbersOfCuts() {
        BranchQuarry q = Programs.two('b', 'f');
        for (int made = 0; made <= 16; made++) {
            fill(q, made);
            IS.same("28: made", made, q.cuts());
            for (int number = -1; number <= 17; number++) {
                int cut = number;
                boolean isThere = cut >= 0 && cut < made;
                String none = "IndexOutOfBoundsException";
                String what = cut + " of " + made;
                IS.same("29: cut " + what, isThere ? "r" : none, Checks.answer(() -> q.kind(cut)));
                IS.same("30: cut " + what, isThere ? "0" : none, Checks.answer(() -> q.coefficient(cut, 1)));
                IS.same("31: cut " + what, isThere ? "2" : none, Checks.answer(() -> q.side(cut)));
                IS.same("32: cut " + what, isThere ? "0" : none, Checks.answer(() -> q.age(cut)));
            }
        }
        for (int far : new int[] {Integer.MIN_VALUE, Integer.MAX_VALUE, 65536, -65536}) {
            IS.fails("29: cut " + far, q, NONE, () -> q.kind(far));
            IS.fails("30: cut " + far, q, NONE, () -> q.coefficient(far, 0));
            IS.fails("31: cut " + far, q, NONE, () -> q.side(far));
            IS.fails("32: cut " + far, q, NONE, () -> q.age(far));
        }
    }

    /** "If there is no such cut or column." */
    private static void numbersOfCutsAndColumns() {
        for (int columns = 1; columns <= 4; columns++) {
            BranchQuarry q = Programs.columns(0, 9, new int[columns]);
            q.addRow('l', 9, 2, 0, 0, 0);
            q.begin('b', 'f');
            q.cutByRounding(0, 0, 2);
            for (int cut = -1; cut <= 1; cut++) {
                for (int number = -2; number <= 5; number++) {
                    int column = number;
                    int of = cut;
                    boolean isThere = cut == 0 && column >= 0 && column < columns;
                    IS.same("30: cut " + cut + ", column " + column + " of " + columns,
                            isThere ? column == 0 ? "1" : "0" : "IndexOutOfBoundsException",
                            Checks.answer(() -> q.coefficient(of, column)));
                }
            }
            for (int far : FAR) {
                IS.fails("30: column " + far, q, NONE, () -> q.coefficient(0, far));
            }
        }
    }

    /** "The age 0 if its sum is equal to its side in the point, and an age greater by 1 otherwise". */
    private static void ageGrowsOrEnds() {
        for (int side = 3; side <= 6; side++) {
            // The point is x = 3, and the cut says that x is at most the side.
            BranchQuarry q = Programs.columns(0, 3, -1);
            q.addRow('l', 2 * side, 2, 0, 0, 0);
            q.begin('b', 'f');
            q.cutByRounding(0, 0, 2);
            IS.same("32: a new cut", 0, q.age(0));
            q.solve(1);
            IS.same("32: 3 with the side " + side, side == 3 ? 0 : 1, q.age(0));
        }
    }

    /** "With the age 4, it is dropped": with the age 3 it may end, as x is 1 in the node 4. */
    private static void ageThreeMayEnd() {
        BranchQuarry q = new BranchQuarry();
        q.addColumn(-1, 0, 2, true);
        q.addColumn(-2, 0, 2, true);
        q.addRow('l', 3, 1, 0, 0, 0);
        q.addRow('l', 3, 3, 2, 0, 0);
        q.begin('b', 'h');
        q.cutByRounding(0, 1, 3);
        IS.same("25: x is at most 1", "r 1 0 <= 1", Checks.cut(q, 0, 2));
        int[] ages = {1, 2, 2, 3, 0};
        for (int age : ages) {
            q.solve(1);
            IS.same("32: after " + Checks.states(q), age, q.age(0));
        }
        IS.same("13: all nodes", "ppisb", Checks.states(q));
        IS.same("18: x is 1 in the node 4", Checks.fraction(1, 1), q.point(4, 0));
    }

    /**
     * "A cut is kept until it is dropped": x + y <= 3 is made twice, the second time one node earlier or
     * later, so that it has the age 4 or 3 when the node 1 is solved.
     */
    private static void ageFourStays() {
        for (int behind = 1; behind <= 2; behind++) {
            BranchQuarry q = new BranchQuarry();
            q.addColumn(-6, 0, 5, true);
            q.addColumn(-4, 0, 6, true);
            q.addRow('l', 10, 5, 3, 0, 0);
            q.begin('d', 'f');
            q.cutByRounding(0, 0, 3);
            q.solve(behind);
            IS.same("25: once more", "1 r 1 1 <= 3", q.cutByRounding(0, 0, 3) + " " + Checks.cut(q, 1, 2));
            q.solve(6 - behind);
            IS.same("13: the node 1 is left", 1, q.open());
            IS.same("32: the ages ahead of it", behind == 1 ? "4 4" : "4 3", q.age(0) + " " + q.age(1));
            q.solve(1);
            IS.same("17: its value", behind == 1 ? Checks.fraction(-40, 3) : Checks.fraction(-12, 1), q.value(1));
            IS.same("32: the ages behind it", behind == 1 ? "4 4" : "4 0", q.age(0) + " " + q.age(1));
        }
        // y <= 1 is dropped ahead of the node 1, in which y is 1.
        BranchQuarry equal = new BranchQuarry();
        equal.addColumn(-1, 0, 3, true);
        equal.addColumn(-4, 0, 2, true);
        equal.addRow('l', 5, 1, 5, 0, 0);
        equal.addRow('l', 3, 2, 2, 0, 0);
        equal.begin('d', 'h');
        equal.cutByRounding(0, 0, 4);
        IS.same("25: y is at most 1", "r 0 1 <= 1", Checks.cut(equal, 0, 2));
        equal.solve(6);
        IS.same("32: dropped", 4, equal.age(0));
        equal.solve(1);
        IS.same("18: y is 1", Checks.fraction(1, 1), equal.point(1, 1));
        IS.same("32: its sum is its side, but it is not kept any more", 4, equal.age(0));
    }

    /** "Each kept cut that is true at it": a cut of the node 2 does not grow old in the node 1. */
    private static void agesWhereTheCutIsTrue() {
        BranchQuarry q = Programs.two('b', 'f');
        q.solve(1);
        q.cutByRounding(2, 0, 5);
        q.cutByRounding(1, 0, 5);
        q.solve(1);
        IS.same("32: the node 1", "0 1", q.age(0) + " " + q.age(1));
        q.solve(1);
        IS.same("32: the node 2", "1 1", q.age(0) + " " + q.age(1));
        q.solve(1);
        IS.same("14: the node 3 comes of the node 1", "1 s", q.parent(3) + " " + q.state(3));
        IS.same("32: the node 3", "1 2", q.age(0) + " " + q.age(1));
    }

    // Promise 33.

    /** "Its value minus that of its parent, rounded down, is a gain": down for the first one. */
    private static void gainsRoundedDown() {
        for (int cost = -9; cost <= -1; cost++) {
            for (int bottom = 2; bottom <= 5; bottom++) {
                for (int top = -17; top <= 17; top++) {
                    BranchQuarry q = Programs.columns(-9, 9, cost);
                    q.addRow('l', top, bottom, 0, 0, 0);
                    q.begin('b', 'f');
                    q.solve(41);
                    int rest = top - bottom * down(top, bottom);
                    int due = rest == 0 ? 1 : -cost * rest / bottom;
                    IS.same("33: " + -cost + " times " + rest + "/" + bottom, due + " 1",
                            q.gain(0, false) + " " + q.gain(0, true));
                }
            }
        }
    }

    private static void gainsRoundedUpSide() {
        for (int cost = 1; cost <= 9; cost++) {
            for (int bottom = 2; bottom <= 5; bottom++) {
                for (int top = -17; top <= 17; top++) {
                    BranchQuarry q = Programs.columns(-9, 9, cost);
                    q.addRow('g', top, bottom, 0, 0, 0);
                    q.begin('b', 'f');
                    q.solve(41);
                    int rest = -top - bottom * down(-top, bottom);
                    int due = rest == 0 ? 1 : cost * rest / bottom;
                    IS.same("33: " + cost + " times " + rest + "/" + bottom, "1 " + due,
                            q.gain(0, false) + " " + q.gain(0, true));
                }
            }
        }
    }

    /** 2y <= 9 and 3x + 2y <= 10 with the cut y <= 4, which is dropped ahead of the node 1. */
    private static BranchQuarry underItsParent() {
        BranchQuarry q = new BranchQuarry();
        q.addColumn(-1, 0, 2, true);
        q.addColumn(-6, 0, 6, true);
        q.addRow('l', 9, 0, 2, 0, 0);
        q.addRow('l', 10, 3, 2, 0, 0);
        q.begin('d', 'h');
        q.cutByRounding(0, 0, 2);
        return q;
    }

    /** "The sum of all gains on its side divided by their number, ... or 1 if there are none". */
    private static void meanGains() {
        BranchQuarry q = underItsParent();
        IS.same("33: none", "1 1 1 1", fourGains(q));
        q.solve(1);
        IS.same("33: none of the node 0", "1 1 1 1", fourGains(q));
        q.solve(1);
        IS.same("33: 8/3 rounded down, of x up", "1 2 1 1", fourGains(q));
        q.solve(1);
        IS.same("33: none of a node without a point", "1 2 1 1", fourGains(q));
        q.solve(1);
        IS.same("33: 8/3 rounded down, of y down", "1 2 2 1", fourGains(q));
        q.solve(1);
        IS.same("33: 2 and 5 by 2, of x up", "1 3 2 1", fourGains(q));
        q.solve(1);
        IS.same("33: 1/3 rounded down, of x down", "0 3 2 1", fourGains(q));
    }

    /** "Rounded toward 0": 0 and -3 by 2 are -1, where rounding down would give -2. */
    private static void meanGainsUnderZero() {
        BranchQuarry q = underItsParent();
        q.solve(6);
        IS.same("32: dropped", 4, q.age(0));
        IS.same("17: the node 0", Checks.fraction(-74, 3), q.value(0));
        q.solve(1);
        IS.same("17: the node 1 is under it", Checks.fraction(-27, 1), q.value(1));
        IS.same("33: -7/3 rounded down is -3, and -3/2 toward 0 is -1", "-1 3 2 1", fourGains(q));
    }

    private static String fourGains(BranchQuarry q) {
        return q.gain(0, false) + " " + q.gain(0, true) + " " + q.gain(1, false) + " " + q.gain(1, true);
    }

    /** "If there is no such column"; "if there is no tree". */
    private static void numbersOfGains() {
        for (int columns = 0; columns <= 4; columns++) {
            for (boolean isTree : new boolean[] {false, true}) {
                BranchQuarry q = Programs.columns(0, 1, new int[columns]);
                if (isTree && columns > 0) {
                    q.begin('b', 'f');
                }
                for (int number = -2; number <= 5; number++) {
                    int column = number;
                    String due = column < 0 || column >= columns ? "IndexOutOfBoundsException"
                            : isTree ? "1" : "IllegalStateException";
                    IS.same("33: column " + column + " of " + columns, due, Checks.answer(() -> q.gain(column, true)));
                    IS.same("33: column " + column + " of " + columns, due, Checks.answer(() -> q.gain(column, false)));
                }
                for (int far : FAR) {
                    IS.fails("33: column " + far, q, NONE, () -> q.gain(far, true));
                }
            }
        }
    }
}
