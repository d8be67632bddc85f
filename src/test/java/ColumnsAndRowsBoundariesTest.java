import java.util.ArrayList;
import java.util.List;
import java.util.NoSuchElementException;

/** The boundary cases that the document names for the promises 1 to 8, each with its sentence. */
public final class ColumnsAndRowsBoundariesTest {
    private static final Checks IS = new Checks();
    private static final Class<IllegalArgumentException> WRONG = IllegalArgumentException.class;
    private static final Class<IllegalStateException> STATE = IllegalStateException.class;
    private static final Class<IndexOutOfBoundsException> NONE = IndexOutOfBoundsException.class;
    private static final Class<NoSuchElementException> NOTHING = NoSuchElementException.class;
    private static final Class<UnsupportedOperationException> NO = UnsupportedOperationException.class;
    private static final int[] FAR = {Integer.MIN_VALUE, Integer.MIN_VALUE + 9, Integer.MAX_VALUE, 65536, -65536};

    public static void main(String[] args) {
        withoutColumnsAndRows();
        withoutATree();
        calls512();
        numbersOfColumns();
        fourColumns();
        noColumnAfterARow();
        noColumnAfterATree();
        senses();
        sides();
        coefficients();
        coefficientsWithoutColumns();
        eightRows();
        sensesAtTheirSides();
        farSides();
        tightenOneColumn();
        tightenBesideAnother();
        tightenWholeColumnsAlone();
        tightenUntilNothingChanges();
        tightenToOneValueOrNone();
        tightenByEightRows();
        tightenIsRefused();
        tightBoundsAndToldOnes();
        numbersOfBounds();
        alikeColumns();
        alikeRows();
        alikeRowsAsOften();
        alikeNumbers();
        unkeptAtTheEdge();
        unkeptByRisingNumbers();
        unkeptOfManyRows();
        unkeptInToldBounds();
        IS.end("ColumnsAndRowsBoundariesTest");
    }

    // Promise 1.

    /** "Creates a program without columns and rows." */
    private static void withoutColumnsAndRows() {
        BranchQuarry q = new BranchQuarry();
        IS.fails("1: no column for lower", q, NONE, () -> q.lower(0));
        IS.fails("1: no column for upper", q, NONE, () -> q.upper(0));
        IS.fails("1: no column for areAlike", q, NONE, () -> q.areAlike(0, 0));
        IS.fails("1: no column for solution", q, NONE, () -> q.solution(0));
        IS.fails("1: no column for gain", q, NONE, () -> q.gain(0, true));
        IS.fails("1: no column for cutByLikeness", q, NONE, () -> q.cutByLikeness(0, 1));
        IS.fails("1: no row for cutByCover", q, NONE, () -> q.cutByCover(0));
        IS.fails("1: no columns for begin", q, STATE, () -> q.begin('b', 'f'));
        IS.fails("1: no rows for unkept", q, NOTHING, q::unkept);
        IS.same("1: no bounds to be made tighter", 0, q.tighten());
        IS.same("1: the empty point has the cost 0", 0, q.bestByAll());
        IS.same("1: the first column is the column 0", 0, q.addColumn(1, 0, 1, true));
        IS.same("1: the first row is the row 0", 0, q.addRow('l', 1, 1, 0, 0, 0));
    }

    /** "... without a tree." */
    private static void withoutATree() {
        BranchQuarry q = Programs.columns(0, 1, 1);
        q.addRow('l', 1, 1, 0, 0, 0);
        IS.same("11: no tree", 0, q.nodes());
        IS.same("12: no tree", 0, q.open());
        IS.same("28: no tree", 0, q.cuts());
        IS.fails("10: no tree", q, STATE, () -> q.solve(1));
        IS.fails("13: no tree", q, NONE, () -> q.state(0));
        IS.fails("14: no tree", q, NONE, () -> q.parent(0));
        IS.fails("15: no tree", q, NONE, () -> q.lowerAt(0, 0));
        IS.fails("16: no tree", q, NONE, () -> q.upperAt(0, 0));
        IS.fails("17: no tree", q, NONE, () -> q.value(0));
        IS.fails("18: no tree", q, NONE, () -> q.point(0, 0));
        IS.fails("19: no tree", q, NOTHING, q::bound);
        IS.fails("20: no tree", q, STATE, () -> q.offer(0, 0, 0, 0));
        IS.fails("21: no tree", q, NONE, () -> q.round(0));
        IS.fails("22: no tree", q, NOTHING, q::best);
        IS.fails("23: no tree", q, NOTHING, () -> q.solution(0));
        IS.fails("25: no tree", q, NONE, () -> q.cutByRounding(0, 0, 2));
        IS.fails("26: no tree", q, NOTHING, () -> q.cutByCover(0));
        IS.fails("29: no tree", q, NONE, () -> q.kind(0));
        IS.fails("30: no tree", q, NONE, () -> q.coefficient(0, 0));
        IS.fails("31: no tree", q, NONE, () -> q.side(0));
        IS.fails("32: no tree", q, NONE, () -> q.age(0));
        IS.fails("33: no tree", q, STATE, () -> q.gain(0, false));
        IS.fails("34: no tree", q, ArithmeticException.class, q::gap);
        IS.fails("35: no tree", q, ArithmeticException.class, q::meanDepth);
        IS.same("4: without a tree bounds are made tighter", 0, q.tighten());
        IS.same("24: without a tree all points are tried", 0, q.bestByAll());
    }

    /** "An object is used for at most 512 calls after it has been made": the last ones still answer. */
    private static void calls512() {
        // 4 calls make it, 63 times 8 calls use it, and 4 calls are left.
        BranchQuarry q = Programs.two();
        for (int round = 0; round < 63; round++) {
            IS.same("9: round " + round, 2, q.begin('b', 'f'));
            IS.same("25: round " + round, 0, q.cutByRounding(0, 0, 2));
            IS.same("10: round " + round, 7, q.solve(41));
            IS.same("11: round " + round, 7, q.nodes());
            IS.same("22: round " + round, Checks.fraction(-12, 1), q.best());
            IS.same("23: round " + round, Checks.fraction(3, 1), q.solution(1));
            IS.same("24: round " + round, -12, q.bestByAll());
            IS.same("34: round " + round, 0f, q.gap());
        }
        IS.same("9: call 509", 2, q.begin('d', 'h'));
        IS.same("10: call 510", 1, q.solve(1));
        IS.same("17: call 511", Checks.fraction(-57, 4), q.value(0));
        IS.same("15: call 512", 3, q.lowerAt(2, 1));
    }

    // Promise 2.

    /** "A cost from -9 to 9, a lower and an upper bound from -9 to 9"; "from the lower one to 9". */
    private static void numbersOfColumns() {
        BranchQuarry refused = new BranchQuarry();
        for (int cost = -11; cost <= 11; cost++) {
            for (int lower = -11; lower <= 11; lower++) {
                for (int upper = -11; upper <= 11; upper++) {
                    boolean isDue = cost >= -9 && cost <= 9 && lower >= -9 && upper >= lower && upper <= 9;
                    tellColumn(isDue ? new BranchQuarry() : refused, isDue, cost, lower, upper);
                }
            }
        }
        for (int far : FAR) {
            tellColumn(refused, false, far, 0, 1);
            tellColumn(refused, false, 0, far, 1);
            tellColumn(refused, false, 0, 0, far);
            tellColumn(refused, false, 0, far, far);
        }
        IS.same("2: none of the refused ones is there", 0, refused.addColumn(0, 0, 0, true));
    }

    private static void tellColumn(BranchQuarry q, boolean isDue, int cost, int lower, int upper) {
        String what = "2: cost " + cost + " from " + lower + " to " + upper;
        IS.same(what, isDue ? "0" : "IllegalArgumentException",
                Checks.answer(() -> q.addColumn(cost, lower, upper, (cost & 1) == 0)));
        if (isDue) {
            IS.same(what + ", its bounds", lower + " " + upper, q.lower(0) + " " + q.upper(0));
        }
    }

    /** "At most 4 columns are numbered from 0"; "if there are 4 columns". */
    private static void fourColumns() {
        BranchQuarry q = new BranchQuarry();
        for (int j = 0; j < 4; j++) {
            IS.same("2: the column " + j, j, q.addColumn(j, -j, j, j % 2 == 0));
        }
        for (int k = 0; k < 3; k++) {
            IS.fails("2: there are 4 columns", q, STATE, () -> q.addColumn(0, 0, 1, true));
        }
        for (int j = 0; j < 4; j++) {
            IS.same("2: the bounds of column " + j, -j + " " + j, q.lower(j) + " " + q.upper(j));
        }
        IS.same("9: the whole ones of the 4", 2, q.begin('b', 'f'));
    }

    /** "If ... there is a row." */
    private static void noColumnAfterARow() {
        for (int columns = 0; columns < 4; columns++) {
            BranchQuarry q = Programs.columns(0, 1, new int[columns]);
            q.addRow('l', 0, 0, 0, 0, 0);
            IS.fails("2: a row, and " + columns + " columns", q, STATE, () -> q.addColumn(0, 0, 1, true));
        }
        BranchQuarry refused = Programs.columns(0, 1, 1);
        IS.fails("3: a row that is refused", refused, WRONG, () -> refused.addRow('l', 100, 0, 0, 0, 0));
        IS.same("2: no row, so one more column", 1, refused.addColumn(0, 0, 1, true));
    }

    /** "If there is ... a tree." */
    private static void noColumnAfterATree() {
        for (int columns = 1; columns < 4; columns++) {
            BranchQuarry q = Programs.columns(0, 1, new int[columns]);
            q.begin('b', 'f');
            IS.fails("2: a tree, and " + columns + " columns", q, STATE, () -> q.addColumn(0, 0, 1, true));
        }
        BranchQuarry refused = Programs.columns(0, 1, 1);
        IS.fails("9: a tree that is refused", refused, WRONG, () -> refused.begin('b', 'x'));
        IS.same("2: no tree, so one more column", 1, refused.addColumn(0, 0, 1, true));
    }

    // Promise 3.

    /** "A sense: 'l', ... 'g', ... 'e'"; "if there is no such sense". */
    private static void senses() {
        BranchQuarry q = Programs.columns(0, 1, 1);
        int rows = 0;
        for (int sign = 0; sign <= Character.MAX_VALUE; sign++) {
            char sense = (char) sign;
            boolean isDue = sense == 'l' || sense == 'g' || sense == 'e';
            IS.same("3: the sense " + sign, isDue ? "" + rows++ : "IllegalArgumentException",
                    Checks.answer(() -> q.addRow(sense, 0, 0, 0, 0, 0)));
        }
        IS.same("3: three senses", 3, rows);
    }

    /** "A side from -99 to 99." */
    private static void sides() {
        for (char sense : new char[] {'l', 'g', 'e'}) {
            BranchQuarry refused = Programs.columns(0, 1, 1);
            for (int side = -120; side <= 120; side++) {
                boolean isDue = side >= -99 && side <= 99;
                tellSide(isDue ? Programs.columns(0, 1, 1) : refused, isDue, sense, side);
            }
            for (int far : FAR) {
                tellSide(refused, false, sense, far);
            }
            IS.same("3: no row of these", 0, refused.addRow(sense, 0, 0, 0, 0, 0));
        }
    }

    private static void tellSide(BranchQuarry q, boolean isDue, char sense, int side) {
        IS.same("3: " + sense + " with the side " + side, isDue ? "0" : "IllegalArgumentException",
                Checks.answer(() -> q.addRow(sense, side, 1, 0, 0, 0)));
    }

    /** "A coefficient from -5 to 5 for each column." */
    private static void coefficients() {
        BranchQuarry refused = Programs.columns(0, 1, 1, 1, 1, 1);
        for (int j = 0; j < 4; j++) {
            for (int value = -8; value <= 8; value++) {
                boolean isDue = value >= -5 && value <= 5;
                tellCoefficient(isDue ? Programs.columns(0, 1, 1, 1, 1, 1) : refused, isDue, j, value);
            }
            for (int far : FAR) {
                tellCoefficient(refused, false, j, far);
            }
        }
        IS.same("3: no row of these", 0, refused.addRow('e', 0, 5, -5, 5, -5));
    }

    private static void tellCoefficient(BranchQuarry q, boolean isDue, int column, int value) {
        int[] co = new int[4];
        co[column] = value;
        IS.same("3: the coefficient " + value + " of column " + column, isDue ? "0" : "IllegalArgumentException",
                Checks.answer(() -> q.addRow('l', 0, co[0], co[1], co[2], co[3])));
    }

    /** "A coefficient is not 0 whose column is not there." */
    private static void coefficientsWithoutColumns() {
        for (int columns = 0; columns <= 4; columns++) {
            BranchQuarry q = Programs.columns(0, 1, new int[columns]);
            for (int j = columns; j < 4; j++) {
                tellCoefficient(q, false, j, 1);
                tellCoefficient(q, false, j, -1);
            }
            for (int j = 0; j < columns; j++) {
                tellCoefficient(Programs.columns(0, 1, new int[columns]), true, j, 1);
                tellCoefficient(Programs.columns(0, 1, new int[columns]), true, j, -1);
            }
            IS.same("3: 0 for the others of " + columns, 0, q.addRow('l', 0, 0, 0, 0, 0));
        }
    }

    /** "At most 8 rows are numbered from 0"; "if there are 8 rows". */
    private static void eightRows() {
        for (boolean isTree : new boolean[] {false, true}) {
            BranchQuarry q = Programs.columns(0, 9, 1);
            if (isTree) {
                q.begin('b', 'f');
            }
            for (int k = 0; k < 8; k++) {
                IS.same("3: the row " + k, k, q.addRow('g', k, 1, 0, 0, 0));
            }
            for (int k = 0; k < 3; k++) {
                IS.fails("3: there are 8 rows", q, STATE, () -> q.addRow('g', 9, 1, 0, 0, 0));
            }
            IS.same("3: the eighth one counts, no ninth one does", 7, q.bestByAll());
        }
    }

    /** "'l', ... is at most the side, 'g', at least the side, 'e', equal to it." */
    private static void sensesAtTheirSides() {
        for (int side = -2; side <= 2; side++) {
            IS.same("3: at most " + side, "true true false", around('l', side));
            IS.same("3: at least " + side, "false true true", around('g', side));
            IS.same("3: equal to " + side, "false true false", around('e', side));
        }
    }

    /** Whether 1 less than the side, the side, and 1 more are solutions. */
    private static String around(char sense, int side) {
        StringBuilder all = new StringBuilder();
        for (int value = side - 1; value <= side + 1; value++) {
            BranchQuarry q = Programs.columns(-9, 9, 0, 0);
            q.addRow(sense, side, 3, -2, 0, 0);
            q.begin('b', 'f');
            // 3 times the value less 2 times the value is the value.
            all.append(all.length() == 0 ? "" : " ").append(q.offer(value, value, 0, 0));
        }
        return all.toString();
    }

    /** "A side from -99 to 99", met by sums that go farther. */
    private static void farSides() {
        BranchQuarry most = Programs.columns(-9, 9, 0, 0, -1, 0);
        most.addRow('l', 99, 5, 5, 1, 0);
        most.begin('b', 'f');
        IS.same("3: the sum 99", true, most.offer(9, 9, 9, 0));
        most.addRow('l', 98, 5, 5, 1, 0);
        IS.same("3: not the sum 99", false, most.offer(9, 9, 9, 0));
        IS.same("3: the sum 98", true, most.offer(9, 9, 8, 0));
        BranchQuarry least = Programs.columns(-9, 9, 0, 0, 1, 0);
        least.addRow('g', -99, 5, 5, 1, 0);
        least.begin('b', 'f');
        IS.same("3: the sum -99", true, least.offer(-9, -9, -9, 0));
        least.addRow('g', -98, 5, 5, 1, 0);
        IS.same("3: not the sum -99", false, least.offer(-9, -9, -9, 0));
        IS.same("3: the sum -98", true, least.offer(-9, -9, -8, 0));
        BranchQuarry all = Programs.columns(-9, 9, 0, 0, 0, 0);
        all.addRow('g', 99, 5, 5, 5, 5);
        all.addRow('l', 99, 5, 5, 5, -5);
        all.begin('b', 'f');
        IS.same("3: the sums 180 and 90", true, all.offer(9, 9, 9, 9));
    }

    // Promise 4.

    /** "Only values for which the row can still be kept": every row of one column, value by value. */
    private static void tightenOneColumn() {
        for (char sense : new char[] {'l', 'g', 'e'}) {
            for (int factor = -5; factor <= 5; factor++) {
                for (int side = -50; side <= 50; side++) {
                    List<Integer> kept = new ArrayList<>();
                    for (int value = -9; value <= 9; value++) {
                        int sum = factor * value;
                        if (sense == 'l' ? sum <= side : sense == 'g' ? sum >= side : sum == side) {
                            kept.add(value);
                        }
                    }
                    BranchQuarry q = Programs.columns(-9, 9, 1);
                    q.addRow(sense, side, factor, 0, 0, 0);
                    isTightened(factor + " " + sense + " " + side, q, factor, kept);
                }
            }
        }
    }

    /** "A whole column with a coefficient other than 0"; "if a column would have no value any more". */
    private static void isTightened(String what, BranchQuarry q, int factor, List<Integer> kept) {
        if (factor == 0) {
            IS.same("4: a coefficient 0: " + what, "0", Checks.answer(q::tighten));
        } else if (kept.isEmpty()) {
            IS.same("4: no value: " + what, "UnsupportedOperationException", Checks.answer(q::tighten));
        } else {
            int least = kept.get(0);
            int greatest = kept.get(kept.size() - 1);
            int changed = (least == -9 ? 0 : 1) + (greatest == 9 ? 0 : 1);
            IS.same("4: " + what, "" + changed, Checks.answer(q::tighten));
            IS.same("4: bounds by " + what, least + " " + greatest, q.lower(0) + " " + q.upper(0));
            return;
        }
        IS.same("4: bounds as told: " + what, "-9 9", q.lower(0) + " " + q.upper(0));
    }

    /** "By some values of the other columns in their bounds": beside a column from -2 to 3. */
    private static void tightenBesideAnother() {
        for (int factor = -5; factor <= 5; factor += 2) {
            for (int beside = -5; beside <= 5; beside++) {
                for (int side = -60; side <= 60; side += 3) {
                    List<Integer> most = new ArrayList<>();
                    List<Integer> least = new ArrayList<>();
                    for (int value = -9; value <= 9; value++) {
                        if (factor * value + Math.min(-2 * beside, 3 * beside) <= side) {
                            most.add(value);
                        }
                        if (factor * value + Math.max(-2 * beside, 3 * beside) >= side) {
                            least.add(value);
                        }
                    }
                    String row = factor + " and " + beside + " by " + side;
                    isTightened("l " + row, beside('l', side, factor, beside), factor, most);
                    isTightened("g " + row, beside('g', side, factor, beside), factor, least);
                }
            }
        }
    }

    private static BranchQuarry beside(char sense, int side, int factor, int beside) {
        BranchQuarry q = new BranchQuarry();
        q.addColumn(1, -9, 9, true);
        q.addColumn(1, -2, 3, false);
        q.addRow(sense, side, factor, beside, 0, 0);
        return q;
    }

    /** "Bounds of whole columns are made tighter." */
    private static void tightenWholeColumnsAlone() {
        BranchQuarry q = new BranchQuarry();
        q.addColumn(0, 0, 9, false);
        q.addColumn(0, 0, 9, true);
        q.addRow('l', 7, 1, 1, 0, 0);
        q.addRow('g', 5, 1, 0, 0, 0);
        IS.same("4: the whole one alone", 1, q.tighten());
        IS.same("4: a column that is not whole", "0 9", q.lower(0) + " " + q.upper(0));
        IS.same("4: so the whole one goes by its told bounds", "0 7", q.lower(1) + " " + q.upper(1));
        q.addRow('l', -1, 1, 0, 0, 0);
        IS.same("4: no whole column would lose its values", 0, q.tighten());
    }

    /** "Row by row, until no bound changes any more." */
    private static void tightenUntilNothingChanges() {
        BranchQuarry chain = Programs.columns(0, 9, 0, 0, 0, 0);
        chain.addRow('g', 1, 0, 0, -1, 1);
        chain.addRow('g', 1, 0, -1, 1, 0);
        chain.addRow('g', 1, -1, 1, 0, 0);
        chain.addRow('g', 4, 1, 0, 0, 0);
        IS.same("4: w >= 4, x > w, y > x, z > y, told from behind", 7, chain.tighten());
        StringBuilder bounds = new StringBuilder();
        for (int j = 0; j < 4; j++) {
            bounds.append(chain.lower(j)).append(chain.upper(j)).append(' ');
        }
        IS.same("4: all along the chain", "46 57 68 79 ", bounds.toString());
        IS.same("4: once more", 0, chain.tighten());

        // Each row takes one value, in turns: x >= 1, y >= 1, x >= 2, ... until none is left.
        BranchQuarry turns = Programs.columns(-9, 9, 0, 0);
        turns.addRow('g', 1, 1, -1, 0, 0);
        turns.addRow('g', 0, -1, 1, 0, 0);
        IS.fails("4: x > y and y >= x", turns, NO, turns::tighten);
        // 5x <= 4y and 5y <= 4x: from 9 down to 7, 5, 4, 3, 2, 1 and 0.
        BranchQuarry slow = Programs.columns(0, 9, 0, 0);
        slow.addRow('l', 0, 5, -4, 0, 0);
        slow.addRow('l', 0, -4, 5, 0, 0);
        IS.same("4: many turns, two bounds", 2, slow.tighten());
        IS.same("4: down to 0", "0 0", slow.upper(0) + " " + slow.upper(1));
    }

    /** "If a column would have no value any more", and not if it has one. */
    private static void tightenToOneValueOrNone() {
        BranchQuarry one = Programs.columns(0, 9, 0, 0);
        one.addRow('g', 9, 1, 0, 0, 0);
        one.addRow('l', 0, 0, 1, 0, 0);
        IS.same("4: one value each", 2, one.tighten());
        IS.same("4: 9 and 0", "9 9 0 0", one.lower(0) + " " + one.upper(0) + " " + one.lower(1) + " " + one.upper(1));
        one.addRow('g', 9, 1, 1, 0, 0);
        IS.same("4: the row can still be kept", 0, one.tighten());
        one.addRow('g', 10, 1, 1, 0, 0);
        IS.fails("4: not any more", one, NO, one::tighten);
        IS.fails("4: nor later on", one, NO, one::tighten);
        // The first row takes values, and the second one is found out only after it.
        BranchQuarry both = Programs.columns(0, 9, 0, 0);
        both.addRow('l', 4, 1, 0, 0, 0);
        both.addRow('g', 14, 1, 1, 0, 0);
        IS.fails("4: what the first row took is given back", both, NO, both::tighten);
        BranchQuarry fixed = Programs.columns(3, 3, 0);
        fixed.addRow('e', 6, 2, 0, 0, 0);
        IS.same("4: a column of one value keeps it", 0, fixed.tighten());
        fixed.addRow('l', 5, 2, 0, 0, 0);
        IS.fails("4: or loses it", fixed, NO, fixed::tighten);
    }

    /** All of up to 8 rows and 4 columns. */
    private static void tightenByEightRows() {
        BranchQuarry q = Programs.columns(-9, 9, 0, 0, 0, 0);
        for (int k = 0; k < 8; k++) {
            int[] co = new int[4];
            co[k / 2] = 1;
            q.addRow(k % 2 == 0 ? 'l' : 'g', k % 2 == 0 ? k : -k, co[0], co[1], co[2], co[3]);
            IS.same("4: one bound by the row " + k, 1, q.tighten());
        }
        IS.same("4: no bound changes any more", 0, q.tighten());
        IS.same("5: by the row 7", -7, q.lower(3));
        IS.same("6: by the row 6", 6, q.upper(3));
        IS.same("5: by the row 1", -1, q.lower(0));
        IS.same("6: by the row 0", 0, q.upper(0));
        BranchQuarry equal = Programs.columns(-9, 9, 0);
        for (int k = 0; k < 7; k++) {
            equal.addRow('e', 0, 0, 0, 0, 0);
        }
        equal.addRow('e', 8, 2, 0, 0, 0);
        IS.same("4: both bounds by the row 7", 2, equal.tighten());
        IS.same("5: 2x = 8", "4 4", equal.lower(0) + " " + equal.upper(0));
    }

    /** "If there is a tree." */
    private static void tightenIsRefused() {
        BranchQuarry q = Programs.columns(0, 9, 0);
        q.addRow('l', 4, 1, 0, 0, 0);
        IS.same("4: ahead of the tree", 1, q.tighten());
        q.addRow('l', 3, 1, 0, 0, 0);
        q.begin('b', 'f');
        IS.fails("4: an open tree", q, STATE, q::tighten);
        q.solve(41);
        IS.fails("4: a solved tree", q, STATE, q::tighten);
    }

    // Promises 5 and 6.

    /** "Without tightening, the tight bounds are those that were told." */
    private static void tightBoundsAndToldOnes() {
        BranchQuarry q = Programs.columns(-9, 9, 0);
        q.addRow('l', 4, 1, 0, 0, 0);
        q.addRow('g', -4, 1, 0, 0, 0);
        IS.same("5: rows alone change nothing", -9, q.lower(0));
        IS.same("6: rows alone change nothing", 9, q.upper(0));
        q.tighten();
        IS.same("5: tight", -4, q.lower(0));
        IS.same("6: tight", 4, q.upper(0));
        q.addRow('e', 0, 1, 0, 0, 0);
        IS.same("5: as they were when they were made tighter", -4, q.lower(0));
        IS.same("6: as they were when they were made tighter", 4, q.upper(0));
        q.begin('b', 'f');
        q.addRow('e', 0, 1, 0, 0, 0);
        q.solve(41);
        IS.same("5: a tree changes nothing", -4, q.lower(0));
        IS.same("6: a tree changes nothing", 4, q.upper(0));
    }

    /** "If there is no such column." */
    private static void numbersOfBounds() {
        for (int columns = 0; columns <= 4; columns++) {
            BranchQuarry q = Programs.columns(-1, columns, new int[columns]);
            for (int number = -2; number <= 6; number++) {
                int column = number;
                boolean isThere = column >= 0 && column < columns;
                IS.same("5: column " + column + " of " + columns, isThere ? "-1" : "IndexOutOfBoundsException",
                        Checks.answer(() -> q.lower(column)));
                IS.same("6: column " + column + " of " + columns, isThere ? "" + columns : "IndexOutOfBoundsException",
                        Checks.answer(() -> q.upper(column)));
            }
            for (int far : FAR) {
                IS.fails("5: column " + far, q, NONE, () -> q.lower(far));
                IS.fails("6: column " + far, q, NONE, () -> q.upper(far));
            }
        }
    }

    // Promise 7.

    /** "If they were told with the same costs, bounds and kinds." */
    private static void alikeColumns() {
        for (int cost = 2; cost <= 4; cost++) {
            for (int lower = -3; lower <= -1; lower++) {
                for (int upper = 4; upper <= 6; upper++) {
                    for (boolean isWhole : new boolean[] {false, true}) {
                        BranchQuarry q = Programs.columns(-2, 5, 3);
                        q.addColumn(cost, lower, upper, isWhole);
                        boolean isDue = cost == 3 && lower == -2 && upper == 5 && isWhole;
                        IS.same("7: " + cost + " " + lower + " " + upper + " " + isWhole, isDue, q.areAlike(0, 1));
                        IS.same("7: a column and itself", true, q.areAlike(1, 1));
                    }
                }
            }
        }
    }

    /** "If exchanging their coefficients in all rows gives the same rows ... in whatever order." */
    private static void alikeRows() {
        int[][] others = {{2, 1, 3, 7}, {2, 1, 3, 8}, {2, 1, 3, 6}, {2, 1, 4, 7}, {2, 0, 3, 7}, {1, 2, 3, 7}};
        for (int k = 0; k < others.length; k++) {
            for (char sense : new char[] {'l', 'g', 'e'}) {
                int[] o = others[k];
                BranchQuarry q = Programs.columns(0, 9, 1, 1, 1);
                q.addRow('g', 7, 1, 2, 3, 0);
                q.addRow('l', 5, 2, 2, 1, 0);
                q.addRow(sense, o[3], o[0], o[1], o[2], 0);
                IS.same("7: the row " + k + " of the sense " + sense, k == 0 && sense == 'g', q.areAlike(0, 1));
                IS.same("7: the same, exchanged", k == 0 && sense == 'g', q.areAlike(1, 0));
                IS.same("7: no rows are changed for column 2 itself", true, q.areAlike(2, 2));
                IS.same("7: column 2 is other", false, q.areAlike(0, 2));
            }
        }
        BranchQuarry far = Programs.columns(0, 9, 1, 1, 1, 1);
        far.addRow('l', 5, 1, 2, 3, 2);
        IS.same("7: columns 1 and 3", true, far.areAlike(1, 3));
        far.addRow('l', 5, 2, 1, 2, 3);
        IS.same("7: not with this row alone", false, far.areAlike(1, 3));
        far.addRow('l', 5, 2, 3, 2, 1);
        IS.same("7: with the exchanged one", true, far.areAlike(3, 1));
    }

    /** "Each as often." */
    private static void alikeRowsAsOften() {
        for (int first = 0; first <= 4; first++) {
            for (int second = 0; second <= 4; second++) {
                BranchQuarry q = Programs.columns(0, 9, 1, 1);
                for (int k = 0; k < first; k++) {
                    q.addRow('l', 5, 1, 2, 0, 0);
                }
                for (int k = 0; k < second; k++) {
                    q.addRow('l', 5, 2, 1, 0, 0);
                }
                IS.same("7: " + first + " and " + second + " times", first == second, q.areAlike(0, 1));
            }
        }
    }

    /** "If there is no such column, for either." */
    private static void alikeNumbers() {
        for (int columns = 0; columns <= 4; columns++) {
            BranchQuarry q = Programs.columns(0, 1, new int[columns]);
            for (int first = -2; first <= 5; first++) {
                for (int second = -2; second <= 5; second++) {
                    int column = first;
                    int other = second;
                    boolean isDue = Math.min(first, second) >= 0 && Math.max(first, second) < columns;
                    IS.same("7: " + first + " and " + second + " of " + columns,
                            isDue ? "true" : "IndexOutOfBoundsException",
                            Checks.answer(() -> q.areAlike(column, other)));
                }
            }
            for (int far : FAR) {
                IS.fails("7: column " + far, q, NONE, () -> q.areAlike(far, 0));
                IS.fails("7: other " + far, q, NONE, () -> q.areAlike(0, far));
            }
        }
    }

    // Promise 8.

    private static String unkeptOf(boolean isWhole, int[]... rows) {
        BranchQuarry q = new BranchQuarry();
        q.addColumn(0, -9, 9, isWhole);
        q.addColumn(0, -9, 9, isWhole);
        for (int[] row : rows) {
            q.addRow((char) row[0], row[1], row[2], row[3], 0, 0);
        }
        return Checks.answer(q::unkept);
    }

    /** "If all rows hold together at some point", be it one point alone; "whole or not". */
    private static void unkeptAtTheEdge() {
        String hold = "NoSuchElementException";
        for (boolean isWhole : new boolean[] {false, true}) {
            IS.same("8: no rows", hold, unkeptOf(isWhole));
            IS.same("8: x >= 5, x <= 5", hold, unkeptOf(isWhole, new int[] {'g', 5, 1, 0}, new int[] {'l', 5, 1, 0}));
            IS.same("8: x >= 5, x <= 4", "3", unkeptOf(isWhole, new int[] {'g', 5, 1, 0}, new int[] {'l', 4, 1, 0}));
            IS.same("8: 3x <= 1, 3x >= 1", hold, unkeptOf(isWhole, new int[] {'l', 1, 3, 0}, new int[] {'g', 1, 3, 0}));
            IS.same("8: 5x <= 2, 2x >= 1", "3", unkeptOf(isWhole, new int[] {'l', 2, 5, 0}, new int[] {'g', 1, 2, 0}));
            IS.same("8: 5x <= 2, 5x >= 2", hold, unkeptOf(isWhole, new int[] {'l', 2, 5, 0}, new int[] {'g', 2, 5, 0}));
            IS.same("8: 2x + 2y = 1", hold, unkeptOf(isWhole, new int[] {'e', 1, 2, 2}));
            IS.same("8: x + y = 18", hold, unkeptOf(isWhole, new int[] {'e', 18, 1, 1}));
            IS.same("8: x + y = 19", "1", unkeptOf(isWhole, new int[] {'e', 19, 1, 1}));
            IS.same("8: x - y = -18", hold, unkeptOf(isWhole, new int[] {'e', -18, 1, -1}));
            IS.same("8: x - y = -19", "1", unkeptOf(isWhole, new int[] {'e', -19, 1, -1}));
            IS.same("8: 0 <= 0", hold, unkeptOf(isWhole, new int[] {'l', 0, 0, 0}));
            IS.same("8: 0 <= -1", "1", unkeptOf(isWhole, new int[] {'l', -1, 0, 0}));
        }
    }

    /** "By rising numbers, each one is left out whose leaving out does not make them hold together." */
    private static void unkeptByRisingNumbers() {
        int[] high = {'g', 5, 1, 0};
        int[] low = {'l', 4, 1, 0};
        int[] other = {'l', 3, 0, 1};
        IS.same("8: of two alike the first one is left out", "6", unkeptOf(true, high, high, low));
        IS.same("8: of two pairs the first ones", "10", unkeptOf(true, high, high, low, low));
        IS.same("8: a pair ahead of a pair", "12", unkeptOf(true, low, high, low, high));
        IS.same("8: a row of its own, ahead", "6", unkeptOf(true, other, high, low));
        IS.same("8: a row of its own, behind", "3", unkeptOf(true, high, low, other));
        IS.same("8: a row of its own, between", "5", unkeptOf(true, high, other, low));
        IS.same("8: a row that cannot hold at all, ahead", "6",
                unkeptOf(true, new int[] {'g', 99, 1, 1}, high, low));
        IS.same("8: and behind", "4", unkeptOf(true, high, low, new int[] {'g', 99, 1, 1}));
        IS.same("8: and one more behind it", "8",
                unkeptOf(true, high, low, new int[] {'g', 99, 1, 1}, new int[] {'l', -99, 0, 1}));
    }

    /** "Bit k, with the value 2 to the power of k, is 1 if the row k belongs to it": up to the row 7. */
    private static void unkeptOfManyRows() {
        BranchQuarry last = Programs.columns(0, 9, 0);
        for (int k = 0; k < 7; k++) {
            last.addRow('g', k, 1, 0, 0, 0);
            IS.same("8: all hold", "NoSuchElementException", Checks.answer(last::unkept));
        }
        last.addRow('l', -1, 1, 0, 0, 0);
        IS.same("8: the row 7 alone", 128, last.unkept());
        BranchQuarry ends = Programs.columns(-9, 9, 0);
        ends.addRow('g', 5, 1, 0, 0, 0);
        for (int k = 1; k < 7; k++) {
            ends.addRow('e', 0, 0, 0, 0, 0);
        }
        ends.addRow('l', 4, 1, 0, 0, 0);
        IS.same("8: the rows 0 and 7", 129, ends.unkept());
        // Four rows x <= 2 and a sum of at least 9: no four of the five clash.
        BranchQuarry five = Programs.columns(0, 9, 0, 0, 0, 0);
        five.addRow('e', 0, 0, 0, 0, 0);
        five.addRow('l', 2, 1, 0, 0, 0);
        five.addRow('l', 2, 0, 1, 0, 0);
        five.addRow('e', 0, 0, 0, 0, 0);
        five.addRow('l', 2, 0, 0, 1, 0);
        five.addRow('l', 2, 0, 0, 0, 1);
        five.addRow('e', 0, 0, 0, 0, 0);
        five.addRow('g', 8, 1, 1, 1, 1);
        IS.same("8: a sum of 8 holds", "NoSuchElementException", Checks.answer(five::unkept));
        BranchQuarry more = Programs.columns(0, 9, 0, 0, 0, 0);
        more.addRow('e', 0, 0, 0, 0, 0);
        more.addRow('l', 2, 1, 0, 0, 0);
        more.addRow('l', 2, 0, 1, 0, 0);
        more.addRow('e', 0, 0, 0, 0, 0);
        more.addRow('l', 2, 0, 0, 1, 0);
        more.addRow('l', 2, 0, 0, 0, 1);
        more.addRow('e', 0, 0, 0, 0, 0);
        more.addRow('g', 9, 1, 1, 1, 1);
        IS.same("8: a sum of 9 does not", 2 + 4 + 16 + 32 + 128, more.unkept());
    }

    /** "In the bounds as they were told." */
    private static void unkeptInToldBounds() {
        BranchQuarry q = Programs.columns(0, 9, 0, 0);
        q.addRow('l', 3, 1, 0, 0, 0);
        q.tighten();
        IS.same("6: tight", 3, q.upper(0));
        q.addRow('g', 4, 1, 0, 0, 0);
        IS.same("8: the bounds of x as told do not clash with x >= 4", 3, q.unkept());
        BranchQuarry tree = Programs.columns(0, 9, -1);
        tree.begin('b', 'f');
        tree.offer(5, 0, 0, 0);
        tree.addRow('g', 6, 1, 0, 0, 0);
        IS.fails("8: a row told while there is a tree", tree, NOTHING, tree::unkept);
        tree.addRow('l', 5, 1, 0, 0, 0);
        IS.same("8: two rows told while there is a tree", 3, tree.unkept());
    }
}
