import java.util.NoSuchElementException;

/**
 * A solver of integer programs in exact fractions. The document tells what each call answers; the
 * comments here tell only why the code is as it is.
 */
public final class BranchQuarry {
    private static final int MOST_COLUMNS = 4;
    private static final int MOST_ROWS = 8;
    private static final int MOST_NODES = 41;
    private static final int MOST_CUTS = 16;
    private static final int DROPPED_AGE = 4;
    private static final int MOST_TRIED_POINTS = 6000;
    private static final int FRACTION_BASE = 100000;

    private static final int LARGEST_NUMBER = 9;
    private static final int LARGEST_COEFFICIENT = 5;
    private static final int LARGEST_SIDE = 99;

    // Two for the bounds of each column, two for each row (one of sense 'e' is two limits), the cuts.
    private static final int MOST_LIMITS = 2 * MOST_COLUMNS + 2 * MOST_ROWS + MOST_CUTS;
    // There are 91390 choices of 4 limits out of 40, and the search meets none of them twice.
    private static final int MOST_PIVOTS = 100000;
    // Each pass but the last takes a value from a column, and all columns have 76 values at most.
    private static final int MOST_PASSES = 100;
    // Euclid's steps for numbers of 63 bits stay under this.
    private static final int MOST_DIVISIONS = 100;

    // Above the cost of every point in bounds from -9 to 9, which is 4 times 81 at most.
    private static final int NO_COST = 1000;

    private final Tree tree;
    private final Program program;

    public BranchQuarry() {
        tree = new Tree();
        program = tree.program;
    }

    // ---- columns and rows.

    public int addColumn(int cost, int lower, int upper, boolean isWhole)
            throws IllegalArgumentException, IllegalStateException {
        if (!isWithin(cost, -LARGEST_NUMBER, LARGEST_NUMBER)
                || !isWithin(lower, -LARGEST_NUMBER, LARGEST_NUMBER)
                || !isWithin(upper, lower, LARGEST_NUMBER)) {
            throw new IllegalArgumentException("a number is out of range");
        }
        if (program.columnCount >= MOST_COLUMNS || program.rowCount > 0 || tree.isPlanted()) {
            throw new IllegalStateException("no column can be added any more");
        }
        return program.keepColumn(cost, lower, upper, isWhole);
    }

    public int addRow(char sense, int side, int a, int b, int c, int d)
            throws IllegalArgumentException, IllegalStateException {
        if (sense != 'l' && sense != 'g' && sense != 'e') {
            throw new IllegalArgumentException("no such sense");
        }
        if (!isWithin(side, -LARGEST_SIDE, LARGEST_SIDE)
                || !program.canMultiply(0, a) || !program.canMultiply(1, b)
                || !program.canMultiply(2, c) || !program.canMultiply(3, d)) {
            throw new IllegalArgumentException("a number is out of range or has no column");
        }
        if (program.rowCount >= MOST_ROWS) {
            throw new IllegalStateException("there are 8 rows");
        }
        int number = program.rowCount;
        Row row = program.rows[number];
        row.sense = sense;
        row.limit = side;
        row.setFactors(a, b, c, d);
        program.rowCount++;
        tree.meetRow(row);
        return number;
    }

    public int tighten() throws IllegalStateException, UnsupportedOperationException {
        if (tree.isPlanted()) {
            throw new IllegalStateException("there is a tree");
        }
        int changed = program.narrowBounds();
        if (changed < 0) {
            throw new UnsupportedOperationException("a column would have no value any more");
        }
        return changed;
    }

    public int lower(int column) throws IndexOutOfBoundsException {
        if (!program.hasColumn(column)) {
            throw new IndexOutOfBoundsException("no such column");
        }
        return program.tightLower[column];
    }

    public int upper(int column) throws IndexOutOfBoundsException {
        if (!program.hasColumn(column)) {
            throw new IndexOutOfBoundsException("no such column");
        }
        return program.tightUpper[column];
    }

    public boolean areAlike(int column, int other) throws IndexOutOfBoundsException {
        if (!program.hasColumn(column) || !program.hasColumn(other)) {
            throw new IndexOutOfBoundsException("no such column");
        }
        return program.canExchange(column, other);
    }

    public int unkept() throws NoSuchElementException {
        int set = program.clashingRows();
        if (set == 0) {
            throw new NoSuchElementException("all rows hold together");
        }
        return set;
    }

    // ---- the tree.

    public int begin(char order, char rule) throws IllegalArgumentException, IllegalStateException {
        if (order != 'b' && order != 'd') {
            throw new IllegalArgumentException("no such order");
        }
        if (rule != 'f' && rule != 'h' && rule != 'l') {
            throw new IllegalArgumentException("no such rule");
        }
        if (program.columnCount == 0) {
            throw new IllegalStateException("there are no columns");
        }
        tree.plant(order, rule);
        return program.wholeCount();
    }

    public int solve(int nodes) throws IllegalArgumentException, IllegalStateException {
        if (!isWithin(nodes, 1, MOST_NODES)) {
            throw new IllegalArgumentException("the number of nodes is out of range");
        }
        if (!tree.isPlanted()) {
            throw new IllegalStateException("there is no tree");
        }
        int solved = 0;
        while (solved < nodes && tree.settleNext()) {
            solved++;
        }
        return solved;
    }

    public int nodes() {
        return tree.nodeCount;
    }

    public int open() {
        return tree.openCount();
    }

    public char state(int node) throws IndexOutOfBoundsException {
        if (!tree.hasNode(node)) {
            throw new IndexOutOfBoundsException("no such node");
        }
        return tree.nodes[node].state;
    }

    public int parent(int node) throws IndexOutOfBoundsException, NoSuchElementException {
        if (!tree.hasNode(node)) {
            throw new IndexOutOfBoundsException("no such node");
        }
        Node above = tree.nodes[node].above;
        if (above == null) {
            throw new NoSuchElementException("the node 0 has no parent");
        }
        return above.number;
    }

    public int lowerAt(int node, int column) throws IndexOutOfBoundsException {
        if (!tree.hasNode(node) || !program.hasColumn(column)) {
            throw new IndexOutOfBoundsException("no such node or column");
        }
        return tree.nodes[node].lowest[column];
    }

    public int upperAt(int node, int column) throws IndexOutOfBoundsException {
        if (!tree.hasNode(node) || !program.hasColumn(column)) {
            throw new IndexOutOfBoundsException("no such node or column");
        }
        return tree.nodes[node].highest[column];
    }

    public long value(int node) throws IndexOutOfBoundsException, NoSuchElementException {
        if (!tree.hasNode(node)) {
            throw new IndexOutOfBoundsException("no such node");
        }
        if (!tree.nodes[node].hasPoint()) {
            throw new NoSuchElementException("the node is open or has no point");
        }
        return tree.nodes[node].found.toldCost();
    }

    public long point(int node, int column) throws IndexOutOfBoundsException, NoSuchElementException {
        if (!tree.hasNode(node) || !program.hasColumn(column)) {
            throw new IndexOutOfBoundsException("no such node or column");
        }
        if (!tree.nodes[node].hasPoint()) {
            throw new NoSuchElementException("the node is open or has no point");
        }
        return tree.nodes[node].found.toldAt(column);
    }

    public long bound() throws NoSuchElementException {
        Point least = tree.boundPoint();
        if (least == null) {
            throw new NoSuchElementException("there is no bound");
        }
        return least.toldCost();
    }

    // ---- solutions.

    public boolean offer(int a, int b, int c, int d) throws IllegalStateException {
        if (!tree.isPlanted()) {
            throw new IllegalStateException("there is no tree");
        }
        program.trial.setWhole(a, b, c, d);
        return tree.takeTrial();
    }

    public boolean round(int node) throws IndexOutOfBoundsException, NoSuchElementException {
        if (!tree.hasNode(node)) {
            throw new IndexOutOfBoundsException("no such node");
        }
        if (!tree.nodes[node].hasPoint()) {
            throw new NoSuchElementException("the node is open or has no point");
        }
        program.roundToTrial(tree.nodes[node].found);
        return tree.takeTrial();
    }

    public long best() throws NoSuchElementException {
        if (!tree.hasBest) {
            throw new NoSuchElementException("there is no best solution");
        }
        return tree.best.toldCost();
    }

    public long solution(int column) throws IndexOutOfBoundsException, NoSuchElementException {
        if (!program.hasColumn(column)) {
            throw new IndexOutOfBoundsException("no such column");
        }
        if (!tree.hasBest) {
            throw new NoSuchElementException("there is no best solution");
        }
        return tree.best.toldAt(column);
    }

    public int bestByAll() throws UnsupportedOperationException, NoSuchElementException {
        if (program.wholeCount() < program.columnCount || program.pointCount() > MOST_TRIED_POINTS) {
            throw new UnsupportedOperationException("the points cannot be tried");
        }
        int least = program.leastCost();
        if (least == NO_COST) {
            throw new NoSuchElementException("there is no solution");
        }
        return least;
    }

    // ---- cuts.

    public int cutByRounding(int node, int row, int divisor)
            throws IndexOutOfBoundsException, IllegalArgumentException, IllegalStateException,
            UnsupportedOperationException {
        if (!tree.hasNode(node) || !program.hasRow(row)) {
            throw new IndexOutOfBoundsException("no such node or row");
        }
        if (!isWithin(divisor, 2, 5)) {
            throw new IllegalArgumentException("the divisor is out of range");
        }
        if (tree.cutCount >= MOST_CUTS) {
            throw new IllegalStateException("16 cuts were made");
        }
        if (!program.isWholeIn(program.rows[row])) {
            throw new UnsupportedOperationException("a column of the row is not whole");
        }
        return tree.addRounding(tree.nodes[node], program.rows[row], divisor);
    }

    public int cutByCover(int row)
            throws IndexOutOfBoundsException, NoSuchElementException, IllegalStateException,
            UnsupportedOperationException {
        if (!program.hasRow(row)) {
            throw new IndexOutOfBoundsException("no such row");
        }
        if (!tree.isPlanted() || !tree.nodes[0].hasPoint()) {
            throw new NoSuchElementException("the node 0 has no point");
        }
        if (tree.cutCount >= MOST_CUTS) {
            throw new IllegalStateException("16 cuts were made");
        }
        int cut = tree.addCover(program.rows[row]);
        if (cut < 0) {
            throw new UnsupportedOperationException("the row makes no cut");
        }
        return cut;
    }

    public int cutByLikeness(int column, int other)
            throws IndexOutOfBoundsException, IllegalArgumentException, IllegalStateException,
            UnsupportedOperationException {
        if (!program.hasColumn(column) || !program.hasColumn(other)) {
            throw new IndexOutOfBoundsException("no such column");
        }
        if (other <= column) {
            throw new IllegalArgumentException("the second column is not greater");
        }
        if (!tree.isPlanted() || tree.cutCount >= MOST_CUTS) {
            throw new IllegalStateException("there is no tree, or 16 cuts were made");
        }
        if (!program.canExchange(column, other)) {
            throw new UnsupportedOperationException("the columns are not alike");
        }
        return tree.addLikeness(column, other);
    }

    public int cuts() {
        return tree.cutCount;
    }

    public char kind(int cut) throws IndexOutOfBoundsException {
        if (!tree.hasCut(cut)) {
            throw new IndexOutOfBoundsException("no such cut");
        }
        return tree.cuts[cut].kind;
    }

    public int coefficient(int cut, int column) throws IndexOutOfBoundsException {
        if (!tree.hasCut(cut) || !program.hasColumn(column)) {
            throw new IndexOutOfBoundsException("no such cut or column");
        }
        return tree.cuts[cut].row.factors[column];
    }

    public int side(int cut) throws IndexOutOfBoundsException {
        if (!tree.hasCut(cut)) {
            throw new IndexOutOfBoundsException("no such cut");
        }
        return tree.cuts[cut].row.limit;
    }

    public int age(int cut) throws IndexOutOfBoundsException {
        if (!tree.hasCut(cut)) {
            throw new IndexOutOfBoundsException("no such cut");
        }
        return tree.cuts[cut].age;
    }

    public int gain(int column, boolean isUp) throws IndexOutOfBoundsException, IllegalStateException {
        if (!program.hasColumn(column)) {
            throw new IndexOutOfBoundsException("no such column");
        }
        if (!tree.isPlanted()) {
            throw new IllegalStateException("there is no tree");
        }
        return tree.meanGain(column, isUp);
    }

    // ---- figures.

    public float gap() throws ArithmeticException {
        Point least = tree.boundPoint();
        if (!tree.hasBest || least == null) {
            throw new ArithmeticException("there is no best solution or no bound");
        }
        float cost = tree.best.floatCost();
        float difference = cost - least.floatCost();
        float size = cost < 0 ? -cost : cost;
        float divisor = size >= 1 ? size : 1;
        return (difference < 0 ? -difference : difference) / divisor;
    }

    public double meanDepth() throws ArithmeticException {
        int count = tree.nodeCount;
        if (count < 1) {
            throw new ArithmeticException("there is no tree");
        }
        return (double) tree.depthSum() / (double) count;
    }

    private static boolean isWithin(int number, int least, int greatest) {
        return number >= least && number <= greatest;
    }

    /** The values of all columns and the cost, all over one bottom, so that no row needs fractions. */
    private static final class Point {
        final long[] tops = new long[MOST_COLUMNS];
        long bottom = 1;
        long costTop;

        void setWhole(int a, int b, int c, int d) {
            tops[0] = a;
            tops[1] = b;
            tops[2] = c;
            tops[3] = d;
            bottom = 1;
        }

        void copyFrom(Point other) {
            System.arraycopy(other.tops, 0, tops, 0, MOST_COLUMNS);
            bottom = other.bottom;
            costTop = other.costTop;
        }

        boolean isCheaperThan(Point other) {
            return costTop * other.bottom < other.costTop * bottom;
        }

        boolean isWholeAt(int column) {
            return bottom < 1 || tops[column] % bottom == 0;
        }

        long floorAt(int column) {
            return bottom < 1 ? 0 : Math.floorDiv(tops[column], bottom);
        }

        long nearestAt(int column) {
            return bottom < 1 ? 0 : Math.floorDiv(2 * tops[column] + bottom, 2 * bottom);
        }

        /** Twice the distance to the middle between two whole numbers, times the bottom. */
        long distanceToMiddle(int column) {
            return bottom < 1 ? 0 : Math.abs(2 * Math.floorMod(tops[column], bottom) - bottom);
        }

        /** The whole number under the difference of the costs. */
        long floorOfRise(Point from) {
            long product = bottom * from.bottom;
            if (product < 1) {
                return 0;
            }
            return Math.floorDiv(costTop * from.bottom - from.costTop * bottom, product);
        }

        long toldAt(int column) {
            return told(tops[column], bottom);
        }

        long toldCost() {
            return told(costTop, bottom);
        }

        /** Not reduced: both parts are exact as floats, so the quotient is that of the lowest terms. */
        float floatCost() {
            return bottom < 1 ? 0 : (float) costTop / (float) bottom;
        }

        private static long told(long top, long bottom) {
            long common = commonDivisor(Math.abs(top), bottom);
            if (common < 1) {
                return 0;
            }
            return FRACTION_BASE * (top / common) + bottom / common;
        }

        private static long commonDivisor(long first, long second) {
            long larger = first;
            long smaller = second;
            for (int step = 0; step < MOST_DIVISIONS && smaller > 0; step++) {
                long rest = larger % smaller;
                larger = smaller;
                smaller = rest;
            }
            return larger;
        }
    }

    private static final class Row {
        final int[] factors = new int[MOST_COLUMNS];
        int limit;
        char sense = 'l';

        void setFactors(int a, int b, int c, int d) {
            factors[0] = a;
            factors[1] = b;
            factors[2] = c;
            factors[3] = d;
        }

        /** What the signs are multiplied by for a cut: a row of sense 'e' is taken as it stands. */
        int signForCut() {
            return sense == 'g' ? -1 : 1;
        }

        /** The sum times the bottom of the point. */
        long sumAt(Point point) {
            long sum = 0;
            for (int j = 0; j < MOST_COLUMNS; j++) {
                sum += factors[j] * point.tops[j];
            }
            return sum;
        }

        boolean isKeptBy(Point point) {
            long sum = sumAt(point);
            long due = limit * point.bottom;
            if (sense == 'l') {
                return sum <= due;
            }
            return sense == 'g' ? sum >= due : sum == due;
        }

        /** Whether the other row is this one with the coefficients of two columns exchanged. */
        boolean isExchanged(Row other, int column, int twin) {
            if (sense != other.sense || limit != other.limit) {
                return false;
            }
            for (int j = 0; j < MOST_COLUMNS; j++) {
                int from = j == column ? twin : j == twin ? column : j;
                if (factors[j] != other.factors[from]) {
                    return false;
                }
            }
            return true;
        }
    }

    /** The columns and rows as they were told, and the tight bounds. */
    private static final class Program {
        final int[] costs = new int[MOST_COLUMNS];
        final int[] lowest = new int[MOST_COLUMNS];
        final int[] highest = new int[MOST_COLUMNS];
        final boolean[] isWhole = new boolean[MOST_COLUMNS];
        final int[] tightLower = new int[MOST_COLUMNS];
        final int[] tightUpper = new int[MOST_COLUMNS];
        final int[] nextLower = new int[MOST_COLUMNS];
        final int[] nextUpper = new int[MOST_COLUMNS];
        final Row[] rows = new Row[MOST_ROWS];
        final Point trial = new Point();
        final Corner corner = new Corner();
        int columnCount;
        int rowCount;

        Program() {
            for (int k = 0; k < MOST_ROWS; k++) {
                rows[k] = new Row();
            }
        }

        boolean hasColumn(int column) {
            return column >= 0 && column < columnCount;
        }

        boolean hasRow(int row) {
            return row >= 0 && row < rowCount;
        }

        int keepColumn(int cost, int lower, int upper, boolean whole) {
            int number = columnCount;
            costs[number] = cost;
            lowest[number] = lower;
            highest[number] = upper;
            tightLower[number] = lower;
            tightUpper[number] = upper;
            isWhole[number] = whole;
            columnCount++;
            return number;
        }

        boolean canMultiply(int column, int factor) {
            return isWithin(factor, -LARGEST_COEFFICIENT, LARGEST_COEFFICIENT)
                    && (factor == 0 || column < columnCount);
        }

        int wholeCount() {
            int count = 0;
            for (int j = 0; j < columnCount; j++) {
                if (isWhole[j]) {
                    count++;
                }
            }
            return count;
        }

        boolean isSwitch(int column) {
            return isWhole[column] && lowest[column] == 0 && highest[column] == 1;
        }

        boolean isWholeIn(Row row) {
            for (int j = 0; j < columnCount; j++) {
                if (row.factors[j] != 0 && !isWhole[j]) {
                    return false;
                }
            }
            return true;
        }

        // Tightening.

        /** How many tight bounds change, or -1 if a column would have no value any more. */
        int narrowBounds() {
            System.arraycopy(tightLower, 0, nextLower, 0, MOST_COLUMNS);
            System.arraycopy(tightUpper, 0, nextUpper, 0, MOST_COLUMNS);
            boolean isChanged = true;
            for (int pass = 0; isChanged && pass < MOST_PASSES; pass++) {
                isChanged = false;
                for (int k = 0; k < rowCount; k++) {
                    if (narrowByRow(rows[k])) {
                        isChanged = true;
                    }
                    if (hasEmptyColumn()) {
                        return -1;
                    }
                }
            }
            return keepNarrowed();
        }

        private int keepNarrowed() {
            int changed = 0;
            for (int j = 0; j < columnCount; j++) {
                changed += tightLower[j] == nextLower[j] ? 0 : 1;
                changed += tightUpper[j] == nextUpper[j] ? 0 : 1;
                tightLower[j] = nextLower[j];
                tightUpper[j] = nextUpper[j];
            }
            return changed;
        }

        private boolean hasEmptyColumn() {
            for (int j = 0; j < columnCount; j++) {
                if (nextLower[j] > nextUpper[j]) {
                    return true;
                }
            }
            return false;
        }

        private boolean narrowByRow(Row row) {
            boolean isChanged = row.sense != 'g' && narrowByHalf(row, 1);
            if (row.sense != 'l' && narrowByHalf(row, -1)) {
                isChanged = true;
            }
            return isChanged;
        }

        private boolean narrowByHalf(Row row, int sign) {
            boolean isChanged = false;
            for (int j = 0; j < columnCount; j++) {
                int room = sign * row.limit - leastOfOthers(row, sign, j);
                if (isWhole[j] && narrowColumn(j, sign * row.factors[j], room)) {
                    isChanged = true;
                }
            }
            return isChanged;
        }

        private int leastOfOthers(Row row, int sign, int column) {
            int least = 0;
            for (int j = 0; j < columnCount; j++) {
                if (j != column) {
                    int factor = sign * row.factors[j];
                    least += Math.min(factor * nextLower[j], factor * nextUpper[j]);
                }
            }
            return least;
        }

        /** Keeps the factor times the column at most the room. */
        private boolean narrowColumn(int column, int factor, int room) {
            if (factor > 0) {
                int most = Math.floorDiv(room, factor);
                if (most < nextUpper[column]) {
                    nextUpper[column] = most;
                    return true;
                }
            }
            if (factor < 0) {
                int least = -Math.floorDiv(room, -factor);
                if (least > nextLower[column]) {
                    nextLower[column] = least;
                    return true;
                }
            }
            return false;
        }

        // Likeness.

        boolean canExchange(int column, int other) {
            if (costs[column] != costs[other] || isWhole[column] != isWhole[other]
                    || lowest[column] != lowest[other] || highest[column] != highest[other]) {
                return false;
            }
            for (int k = 0; k < rowCount; k++) {
                if (countExchanged(rows[k], column, column) != countExchanged(rows[k], column, other)) {
                    return false;
                }
            }
            return true;
        }

        private int countExchanged(Row row, int column, int other) {
            int count = 0;
            for (int k = 0; k < rowCount; k++) {
                if (rows[k].isExchanged(row, column, other)) {
                    count++;
                }
            }
            return count;
        }

        // Rows that cannot hold together.

        /** The set as bits, 0 if all rows hold together. */
        int clashingRows() {
            int set = (1 << rowCount) - 1;
            if (canHoldTogether(set)) {
                return 0;
            }
            for (int k = 0; k < rowCount; k++) {
                int without = set & ~(1 << k);
                if (!canHoldTogether(without)) {
                    set = without;
                }
            }
            return set;
        }

        private boolean canHoldTogether(int set) {
            corner.start(columnCount, costs, lowest, highest);
            for (int k = 0; k < rowCount; k++) {
                if ((set & (1 << k)) != 0) {
                    corner.addRowLimits(rows[k]);
                }
            }
            return corner.search();
        }

        // Solutions.

        void price(Point point) {
            long sum = 0;
            for (int j = 0; j < columnCount; j++) {
                sum += costs[j] * point.tops[j];
            }
            point.costTop = sum;
        }

        void roundToTrial(Point from) {
            trial.copyFrom(from);
            for (int j = 0; j < columnCount; j++) {
                if (isWhole[j]) {
                    trial.tops[j] = from.nearestAt(j) * from.bottom;
                }
            }
        }

        boolean isWholeWhereDue(Point point) {
            for (int j = 0; j < columnCount; j++) {
                if (isWhole[j] && !point.isWholeAt(j)) {
                    return false;
                }
            }
            return true;
        }

        boolean isSolution(Point point) {
            for (int j = 0; j < columnCount; j++) {
                if (point.tops[j] < lowest[j] * point.bottom || point.tops[j] > highest[j] * point.bottom) {
                    return false;
                }
            }
            return isWholeWhereDue(point) && keepsRows(point);
        }

        private boolean keepsRows(Point point) {
            for (int k = 0; k < rowCount; k++) {
                if (!rows[k].isKeptBy(point)) {
                    return false;
                }
            }
            return true;
        }

        int pointCount() {
            int count = 1;
            for (int j = 0; j < columnCount; j++) {
                count *= highest[j] - lowest[j] + 1;
            }
            return count;
        }

        /** The least cost of all solutions with whole numbers, or NO_COST. */
        int leastCost() {
            trial.setWhole(lowest[0], lowest[1], lowest[2], lowest[3]);
            int least = NO_COST;
            int count = Math.min(pointCount(), MOST_TRIED_POINTS);
            for (int k = 0; k < count; k++) {
                price(trial);
                if (trial.costTop < least && keepsRows(trial)) {
                    least = (int) trial.costTop;
                }
                advanceTrial();
            }
            return least;
        }

        private void advanceTrial() {
            for (int j = 0; j < columnCount; j++) {
                if (trial.tops[j] < highest[j]) {
                    trial.tops[j]++;
                    return;
                }
                trial.tops[j] = lowest[j];
            }
        }
    }

    /**
     * Finds, of all points that keep some limits, the one with the least cost, of several the one
     * with the least column 0, and so on: a dual simplex search whose steps make that whole list of
     * numbers, compared in its order, greater each time, so that it never comes back to a corner.
     * The columns are written in the slacks of as many limits as there are columns; all numbers are
     * determinants over one bottom, itself a determinant, so that each division has no rest.
     */
    private static final class Corner {
        final Point found = new Point();
        private final int[][] factors = new int[MOST_LIMITS][MOST_COLUMNS];
        private final int[] limits = new int[MOST_LIMITS];
        // moves[j][k] over the bottom is what the column j gains where the slack k gains 1.
        private final long[][] moves = new long[MOST_COLUMNS][MOST_COLUMNS];
        // What the cost, and the slack of the limit that is broken, gain there, likewise.
        private final long[] costMoves = new long[MOST_COLUMNS];
        private final long[] rates = new long[MOST_COLUMNS];
        private final int[] costs = new int[MOST_COLUMNS];
        private int limitCount;
        private int columnCount;

        /** Starts at the corner of the bounds that is the best one as long as there are no rows. */
        void start(int columns, int[] prices, int[] lowest, int[] highest) {
            columnCount = Math.min(columns, MOST_COLUMNS);
            limitCount = 0;
            found.bottom = 1;
            for (int j = 0; j < columnCount; j++) {
                costs[j] = prices[j];
                for (int k = 0; k < columnCount; k++) {
                    moves[j][k] = 0;
                }
                boolean isHigh = prices[j] < 0;
                moves[j][j] = isHigh ? -1 : 1;
                found.tops[j] = isHigh ? highest[j] : lowest[j];
                addBound(j, 1, highest[j]);
                addBound(j, -1, -lowest[j]);
            }
        }

        private void addBound(int column, int sign, int limit) {
            if (limitCount >= MOST_LIMITS) {
                return;
            }
            for (int j = 0; j < MOST_COLUMNS; j++) {
                factors[limitCount][j] = j == column ? sign : 0;
            }
            limits[limitCount] = limit;
            limitCount++;
        }

        void addRowLimits(Row row) {
            if (row.sense != 'g') {
                addHalf(row, 1);
            }
            if (row.sense != 'l') {
                addHalf(row, -1);
            }
        }

        private void addHalf(Row row, int sign) {
            if (limitCount >= MOST_LIMITS) {
                return;
            }
            for (int j = 0; j < MOST_COLUMNS; j++) {
                factors[limitCount][j] = sign * row.factors[j];
            }
            limits[limitCount] = sign * row.limit;
            limitCount++;
        }

        /** Whether there is a point; then it is the one that was found, but without its cost. */
        boolean search() {
            for (int step = 0; step < MOST_PIVOTS; step++) {
                int broken = firstBroken();
                if (broken < 0) {
                    return true;
                }
                setRates(broken);
                int slack = bestSlack();
                if (slack < 0) {
                    return false;
                }
                exchange(slack, slackOf(broken));
            }
            return false;
        }

        private int firstBroken() {
            for (int k = 0; k < limitCount; k++) {
                if (slackOf(k) < 0) {
                    return k;
                }
            }
            return -1;
        }

        /** What is left of a limit at the point, times the bottom. */
        private long slackOf(int limit) {
            long left = limits[limit] * found.bottom;
            for (int j = 0; j < columnCount; j++) {
                left -= factors[limit][j] * found.tops[j];
            }
            return left;
        }

        private void setRates(int limit) {
            for (int k = 0; k < columnCount; k++) {
                long rate = 0;
                long costMove = 0;
                for (int j = 0; j < columnCount; j++) {
                    rate -= factors[limit][j] * moves[j][k];
                    costMove += costs[j] * moves[j][k];
                }
                rates[k] = rate;
                costMoves[k] = costMove;
            }
        }

        /** The slack that mends the limit at the least rise of cost, then of column 0, and so on. */
        private int bestSlack() {
            int chosen = -1;
            for (int k = 0; k < columnCount; k++) {
                if (rates[k] > 0 && (chosen < 0 || risesLess(k, chosen))) {
                    chosen = k;
                }
            }
            return chosen;
        }

        private boolean risesLess(int slack, int other) {
            long first = costMoves[slack] * rates[other];
            long second = costMoves[other] * rates[slack];
            for (int j = 0; j < columnCount && first == second; j++) {
                first = moves[j][slack] * rates[other];
                second = moves[j][other] * rates[slack];
            }
            return first < second;
        }

        /** Puts the broken limit in the place of a slack: the point then lies on that limit. */
        private void exchange(int slack, long missing) {
            long bottom = found.bottom;
            long rate = rates[slack];
            if (bottom < 1 || rate < 1) {
                return;
            }
            for (int j = 0; j < columnCount; j++) {
                long move = moves[j][slack];
                found.tops[j] = (found.tops[j] * rate - missing * move) / bottom;
                for (int k = 0; k < columnCount; k++) {
                    if (k != slack) {
                        moves[j][k] = (moves[j][k] * rate - rates[k] * move) / bottom;
                    }
                }
            }
            found.bottom = rate;
        }
    }

    private static final class Node {
        final int[] lowest = new int[MOST_COLUMNS];
        final int[] highest = new int[MOST_COLUMNS];
        final Point found = new Point();
        final int number;
        Node above;
        int depth;
        // The column on which the node above was branched, and the side of this node.
        int column;
        boolean isUp;
        char state = 'o';

        Node(int number) {
            this.number = number;
        }

        void reopen(Node parent, int[] lower, int[] upper) {
            above = parent;
            depth = parent == null ? 0 : parent.depth + 1;
            System.arraycopy(lower, 0, lowest, 0, MOST_COLUMNS);
            System.arraycopy(upper, 0, highest, 0, MOST_COLUMNS);
            state = 'o';
        }

        boolean hasPoint() {
            return state != 'o' && state != 'i';
        }

        boolean comesOf(Node other) {
            for (Node at = this; at != null; at = at.above) {
                if (at == other) {
                    return true;
                }
            }
            return false;
        }

        boolean hasLessBoundThan(Node other) {
            return above != null && other.above != null
                    && above.found.isCheaperThan(other.above.found);
        }
    }

    private static final class Cut {
        final Row row = new Row();
        char kind;
        int age;
        // Null if the cut is true at all nodes.
        Node home;
        // The two columns of a cut by likeness.
        int column;
        int other;

        void renew(char newKind, Node newHome) {
            kind = newKind;
            home = newHome;
            age = 0;
            row.setFactors(0, 0, 0, 0);
            row.limit = 0;
        }

        boolean isInForceAt(Node node) {
            return age < DROPPED_AGE && (home == null || node.comesOf(home));
        }

        void growOld(Point point) {
            age = row.sumAt(point) == row.limit * point.bottom ? 0 : age + 1;
        }
    }

    /** Makes a cut of a row of columns that are 0 or 1. */
    private static final class Cover {
        final int[] factors = new int[MOST_COLUMNS];
        int limit;
        private final int[] weights = new int[MOST_COLUMNS];
        private int room;
        private int cover;

        /** Whether the row makes a cut, which is then in the factors and the limit. */
        boolean make(Program program, Row row, Point point) {
            if (!read(program, row) || !choose(point)) {
                return false;
            }
            thinOut();
            for (int j = 0; j < MOST_COLUMNS; j++) {
                factors[j] = cover >> j & 1;
            }
            limit = Integer.bitCount(cover) - 1;
            lift();
            return true;
        }

        private boolean read(Program program, Row row) {
            int sign = row.signForCut();
            room = sign * row.limit;
            boolean isFit = room >= 0;
            for (int j = 0; j < MOST_COLUMNS; j++) {
                weights[j] = sign * row.factors[j];
                if (weights[j] < 0 || weights[j] > 0 && !program.isSwitch(j)) {
                    isFit = false;
                }
            }
            return isFit;
        }

        /** Takes columns by falling values until they are a cover; false if all together are none. */
        private boolean choose(Point point) {
            cover = 0;
            for (int count = 0; count < MOST_COLUMNS && weightOf(cover) <= room; count++) {
                int next = -1;
                for (int j = 0; j < MOST_COLUMNS; j++) {
                    boolean isFree = weights[j] > 0 && (cover >> j & 1) == 0;
                    if (isFree && (next < 0 || point.tops[j] > point.tops[next])) {
                        next = j;
                    }
                }
                if (next < 0) {
                    return false;
                }
                cover |= 1 << next;
            }
            return weightOf(cover) > room;
        }

        private void thinOut() {
            for (int j = 0; j < MOST_COLUMNS; j++) {
                int others = cover & ~(1 << j);
                if (weightOf(others) > room) {
                    cover = others;
                }
            }
        }

        private void lift() {
            int known = cover;
            for (int j = 0; j < MOST_COLUMNS; j++) {
                if (weights[j] > 0 && (cover >> j & 1) == 0) {
                    int greatest = greatestSum(known, room - weights[j]);
                    factors[j] = greatest < 0 ? limit : limit - greatest;
                    known |= 1 << j;
                }
            }
        }

        /** The greatest sum of the cut over choices of the known columns in the space, or -1. */
        private int greatestSum(int known, int space) {
            int greatest = -1;
            for (int set = 0; set < 1 << MOST_COLUMNS; set++) {
                if ((set & ~known) == 0 && weightOf(set) <= space) {
                    greatest = Math.max(greatest, sumOver(factors, set));
                }
            }
            return greatest;
        }

        private int weightOf(int set) {
            return sumOver(weights, set);
        }

        private static int sumOver(int[] numbers, int set) {
            int sum = 0;
            for (int j = 0; j < MOST_COLUMNS; j++) {
                if ((set >> j & 1) != 0) {
                    sum += numbers[j];
                }
            }
            return sum;
        }
    }

    /** The nodes, cuts and gains, and the best solution; there is no tree as long as it has no nodes. */
    private static final class Tree {
        final Program program = new Program();
        final Node[] nodes = new Node[MOST_NODES];
        final Cut[] cuts = new Cut[MOST_CUTS];
        final Point best = new Point();
        private final Cover cover = new Cover();
        // The side down has the index 0, the side up 1.
        private final long[][] gainSums = new long[2][MOST_COLUMNS];
        private final int[][] gainCounts = new int[2][MOST_COLUMNS];
        int nodeCount;
        int cutCount;
        boolean hasBest;
        private char order;
        private char rule;

        Tree() {
            for (int k = 0; k < MOST_NODES; k++) {
                nodes[k] = new Node(k);
            }
            for (int k = 0; k < MOST_CUTS; k++) {
                cuts[k] = new Cut();
            }
        }

        boolean isPlanted() {
            return nodeCount > 0;
        }

        boolean hasNode(int node) {
            return node >= 0 && node < nodeCount;
        }

        boolean hasCut(int cut) {
            return cut >= 0 && cut < cutCount;
        }

        void plant(char newOrder, char newRule) {
            order = newOrder;
            rule = newRule;
            hasBest = false;
            sprout();
        }

        private void sprout() {
            nodeCount = 1;
            cutCount = 0;
            for (int j = 0; j < MOST_COLUMNS; j++) {
                gainSums[0][j] = 0;
                gainSums[1][j] = 0;
                gainCounts[0][j] = 0;
                gainCounts[1][j] = 0;
            }
            nodes[0].reopen(null, program.tightLower, program.tightUpper);
        }

        void meetRow(Row row) {
            if (!isPlanted()) {
                return;
            }
            boolean isLost = hasBest && !row.isKeptBy(best);
            if (isLost) {
                hasBest = false;
            }
            if (isLost || hasLostLikeness()) {
                sprout();
            }
        }

        private boolean hasLostLikeness() {
            for (int k = 0; k < cutCount; k++) {
                if (cuts[k].kind == 'y' && !program.canExchange(cuts[k].column, cuts[k].other)) {
                    return true;
                }
            }
            return false;
        }

        // Looking.

        int openCount() {
            int count = 0;
            for (int k = 0; k < nodeCount; k++) {
                if (nodes[k].state == 'o') {
                    count++;
                }
            }
            return count;
        }

        int depthSum() {
            int sum = 0;
            for (int k = 0; k < nodeCount; k++) {
                sum += nodes[k].depth;
            }
            return sum;
        }

        /** The point whose cost is the bound of the tree, or null. */
        Point boundPoint() {
            if (!isPlanted() || nodes[0].state == 'o') {
                return null;
            }
            Point least = hasBest ? best : null;
            for (int k = 0; k < nodeCount; k++) {
                Node above = nodes[k].above;
                if (nodes[k].state == 'o' && above != null
                        && (least == null || above.found.isCheaperThan(least))) {
                    least = above.found;
                }
            }
            return least;
        }

        int meanGain(int column, boolean isUp) {
            int side = isUp ? 1 : 0;
            int count = gainCounts[side][column];
            return count < 1 ? 1 : (int) (gainSums[side][column] / count);
        }

        // Solutions.

        /** Whether the trial point is a solution and became the best one. */
        boolean takeTrial() {
            Point trial = program.trial;
            if (!program.isSolution(trial)) {
                return false;
            }
            program.price(trial);
            if (hasBest && !trial.isCheaperThan(best)) {
                return false;
            }
            best.copyFrom(trial);
            hasBest = true;
            return true;
        }

        // Solving.

        /** False if there is no open node, or the one to be solved must stay open. */
        boolean settleNext() {
            Node node = nextNode();
            if (node == null) {
                return false;
            }
            if (!findPoint(node)) {
                node.state = 'i';
                learnConflict(node);
                return true;
            }
            Point point = program.corner.found;
            char verdict = judge(point);
            // Nothing may be learnt from a node that stays open, so this is looked at first.
            if (verdict == 'p' && nodeCount + 2 > MOST_NODES) {
                return false;
            }
            node.found.copyFrom(point);
            ageCuts(node);
            learnGain(node);
            node.state = verdict;
            if (verdict == 's') {
                best.copyFrom(point);
                hasBest = true;
            }
            if (verdict == 'p') {
                branch(node);
            }
            return true;
        }

        private Node nextNode() {
            Node next = null;
            for (int k = 0; k < nodeCount; k++) {
                Node node = nodes[k];
                if (node.state == 'o'
                        && (next == null || order == 'd' || node.hasLessBoundThan(next))) {
                    next = node;
                }
            }
            return next;
        }

        private boolean findPoint(Node node) {
            Corner corner = program.corner;
            corner.start(program.columnCount, program.costs, node.lowest, node.highest);
            for (int k = 0; k < program.rowCount; k++) {
                corner.addRowLimits(program.rows[k]);
            }
            for (int k = 0; k < cutCount; k++) {
                if (cuts[k].isInForceAt(node)) {
                    corner.addRowLimits(cuts[k].row);
                }
            }
            if (!corner.search()) {
                return false;
            }
            program.price(corner.found);
            return true;
        }

        private char judge(Point point) {
            if (hasBest && !point.isCheaperThan(best)) {
                return 'b';
            }
            return program.isWholeWhereDue(point) ? 's' : 'p';
        }

        private void ageCuts(Node node) {
            for (int k = 0; k < cutCount; k++) {
                if (cuts[k].isInForceAt(node)) {
                    cuts[k].growOld(node.found);
                }
            }
        }

        private void learnGain(Node node) {
            if (node.above == null) {
                return;
            }
            int side = node.isUp ? 1 : 0;
            gainSums[side][node.column] += node.found.floorOfRise(node.above.found);
            gainCounts[side][node.column]++;
        }

        // Branching.

        private void branch(Node node) {
            int column = branchColumn(node.found);
            if (column < 0 || nodeCount + 2 > MOST_NODES) {
                return;
            }
            int floor = (int) node.found.floorAt(column);
            addChild(node, column, false).highest[column] = floor;
            addChild(node, column, true).lowest[column] = floor + 1;
        }

        private Node addChild(Node parent, int column, boolean isUp) {
            Node child = nodes[nodeCount];
            child.reopen(parent, parent.lowest, parent.highest);
            child.column = column;
            child.isUp = isUp;
            nodeCount++;
            return child;
        }

        private int branchColumn(Point point) {
            int chosen = -1;
            for (int j = 0; j < program.columnCount; j++) {
                if (program.isWhole[j] && !point.isWholeAt(j)
                        && (chosen < 0 || isPreferred(j, chosen, point))) {
                    chosen = j;
                }
            }
            return chosen;
        }

        private boolean isPreferred(int column, int chosen, Point point) {
            if (rule == 'h') {
                return point.distanceToMiddle(column) < point.distanceToMiddle(chosen);
            }
            return rule == 'l' && score(column) > score(chosen);
        }

        private int score(int column) {
            return Math.min(meanGain(column, false), meanGain(column, true));
        }

        // Cuts. The callers look whether there is room for one more.

        int addRounding(Node node, Row row, int divisor) {
            int sign = row.signForCut();
            int left = sign * row.limit;
            int shift = 0;
            Cut cut = cuts[cutCount];
            cut.renew('r', node);
            for (int j = 0; j < program.columnCount && divisor > 0; j++) {
                int factor = Math.floorDiv(sign * row.factors[j], divisor);
                cut.row.factors[j] = factor;
                left -= sign * row.factors[j] * node.lowest[j];
                shift += factor * node.lowest[j];
            }
            cut.row.limit = divisor > 0 ? Math.floorDiv(left, divisor) + shift : left;
            return cutCount++;
        }

        /** The number of the cut, or -1 if the row makes none. */
        int addCover(Row row) {
            if (!cover.make(program, row, nodes[0].found)) {
                return -1;
            }
            Cut cut = cuts[cutCount];
            cut.renew('c', null);
            System.arraycopy(cover.factors, 0, cut.row.factors, 0, MOST_COLUMNS);
            cut.row.limit = cover.limit;
            return cutCount++;
        }

        int addLikeness(int column, int other) {
            Cut cut = cuts[cutCount];
            cut.renew('y', null);
            cut.column = column;
            cut.other = other;
            cut.row.factors[column] = -1;
            cut.row.factors[other] = 1;
            return cutCount++;
        }

        private void learnConflict(Node node) {
            if (node.above == null || cutCount >= MOST_CUTS || !isAllSwitches(node)) {
                return;
            }
            Cut cut = cuts[cutCount];
            cut.renew('k', null);
            int ones = 0;
            for (Node at = node; at.above != null; at = at.above) {
                boolean isOne = node.lowest[at.column] == 1;
                cut.row.factors[at.column] = isOne ? 1 : -1;
                ones += isOne ? 1 : 0;
            }
            cut.row.limit = ones - 1;
            cutCount++;
        }

        private boolean isAllSwitches(Node node) {
            for (Node at = node; at.above != null; at = at.above) {
                if (!program.isSwitch(at.column)) {
                    return false;
                }
            }
            return true;
        }
    }
}
