import java.util.NoSuchElementException;

/** The boundary cases that the document names for the promises 9 to 19, each with its sentence. */
public final class TreeBoundariesTest {
    private static final Checks IS = new Checks();
    private static final Class<IllegalArgumentException> WRONG = IllegalArgumentException.class;
    private static final Class<IllegalStateException> STATE = IllegalStateException.class;
    private static final Class<IndexOutOfBoundsException> NONE = IndexOutOfBoundsException.class;
    private static final Class<NoSuchElementException> NOTHING = NoSuchElementException.class;
    private static final int[] FAR = {Integer.MIN_VALUE, -42, -1, 41, 42, 65536, Integer.MAX_VALUE};

    public static void main(String[] args) {
        ordersAndRules();
        refusedBeginKeepsOrderAndRule();
        beginWithoutColumns();
        countsOfWholeColumns();
        beginInPlaceOfATree();
        numbersOfNodesToSolve();
        solveAsManyAsTold();
        solveWithoutATree();
        leastBoundFirst();
        greatestNumberFirst();
        closedByItsBoundOrNot();
        closedByAFractionOrNot();
        solutionOrNot();
        branchedAtTheValueRoundedDown();
        at39And41Nodes();
        stuckAsIfNotLookedAt();
        stuckLearnsNoGain();
        closedByTheirBoundAt41Nodes();
        solutionsAt41Nodes();
        withoutPointsAt41Nodes();
        lowestNumber();
        nearestToTheMiddle();
        lesserGainDown();
        scoreAboveOne();
        equalScores();
        ownGainIsLearntFirst();
        numbersOfNodes();
        numbersOfNodesAndColumns();
        parents();
        pointsOrNot();
        leastPointsOfSeveral();
        fractionsAsTold();
        allLimitsAtOnce();
        boundOrNot();
        boundOfBestAndOpenNodes();
        countsOfNodes();
        IS.end("TreeBoundariesTest");
    }

    // Promise 9.

    /** "The order, 'b' or 'd'; the rule, 'f', 'h' or 'l'." */
    private static void ordersAndRules() {
        BranchQuarry q = Programs.two();
        for (int number = 0; number <= Character.MAX_VALUE; number++) {
            char sign = (char) number;
            IS.same("9: the order " + number, sign == 'b' || sign == 'd' ? "2" : "IllegalArgumentException",
                    Checks.answer(() -> q.begin(sign, 'f')));
            IS.same("9: the rule " + number,
                    sign == 'f' || sign == 'h' || sign == 'l' ? "2" : "IllegalArgumentException",
                    Checks.answer(() -> q.begin('b', sign)));
        }
    }

    /** "A method that throws an exception changes nothing." */
    private static void refusedBeginKeepsOrderAndRule() {
        BranchQuarry plain = Programs.two('d', 'h');
        BranchQuarry refused = Programs.two('d', 'h');
        for (int k = 0; k < 9; k++) {
            IS.fails("9: the rule is wrong", refused, WRONG, () -> refused.begin('b', 'x'));
            IS.fails("9: the order is wrong", refused, WRONG, () -> refused.begin('x', 'f'));
            plain.solve(1);
            refused.solve(1);
            IS.same("9: order and rule are the old ones", Checks.picture(plain), Checks.picture(refused));
        }
    }

    /** "If there are no columns." */
    private static void beginWithoutColumns() {
        BranchQuarry q = new BranchQuarry();
        IS.fails("9: no columns", q, STATE, () -> q.begin('b', 'f'));
        q.addRow('l', 0, 0, 0, 0, 0);
        IS.fails("9: a row, but no columns", q, STATE, () -> q.begin('d', 'l'));
        BranchQuarry one = new BranchQuarry();
        one.addColumn(0, 0, 0, false);
        IS.same("9: one column", 0, one.begin('d', 'l'));
    }

    /** "Returns the number of whole columns": from 0 to 4 of up to 4. */
    private static void countsOfWholeColumns() {
        for (int columns = 1; columns <= 4; columns++) {
            for (int set = 0; set < 1 << columns; set++) {
                BranchQuarry q = new BranchQuarry();
                for (int j = 0; j < columns; j++) {
                    q.addColumn(0, 0, 0, (set >> j & 1) != 0);
                }
                IS.same("9: the set " + set + " of " + columns, Integer.bitCount(set), q.begin('b', 'f'));
            }
        }
    }

    /** "In place of one that is there, with the node 0 alone, no cuts, no gains and no best solution." */
    private static void beginInPlaceOfATree() {
        for (char order : new char[] {'b', 'd'}) {
            BranchQuarry solved = Programs.two('b', 'f');
            solved.cutByRounding(0, 0, 5);
            solved.solve(41);
            solved.cutByRounding(0, 0, 2);
            solved.begin(order, 'h');
            areAlikeToTheEnd(solved, Programs.two(order, 'h'));
            BranchQuarry open = Programs.never();
            open.begin('b', 'f');
            open.cutByRounding(0, 0, 5);
            open.solve(41);
            open.begin(order, 'l');
            BranchQuarry fresh = Programs.never();
            fresh.begin(order, 'l');
            areAlikeToTheEnd(open, fresh);
        }
    }

    private static void areAlikeToTheEnd(BranchQuarry old, BranchQuarry fresh) {
        int solved = 1;
        for (int k = 0; solved > 0; k++) {
            IS.same("9: as if there had been no tree", Checks.picture(fresh), Checks.picture(old));
            if (k == 1) {
                IS.same("25: the first cut", 0, old.cutByRounding(0, 0, 2) + fresh.cutByRounding(0, 0, 2));
            }
            solved = fresh.solve(1);
            IS.same("10: solved alike", solved, old.solve(1));
        }
    }

    // Promise 10.

    /** "The number of nodes, 1 to 41." */
    private static void numbersOfNodesToSolve() {
        BranchQuarry refused = Programs.two('b', 'f');
        for (int number = -3; number <= 45; number++) {
            int nodes = number;
            boolean isDue = nodes >= 1 && nodes <= 41;
            BranchQuarry q = isDue ? Programs.two('b', 'f') : refused;
            IS.same("10: " + nodes + " nodes", isDue ? "" + Math.min(nodes, 11) : "IllegalArgumentException",
                    Checks.answer(() -> q.solve(nodes)));
        }
        for (int far : new int[] {Integer.MIN_VALUE, Integer.MAX_VALUE, 65537, -65535}) {
            IS.fails("10: " + far + " nodes", refused, WRONG, () -> refused.solve(far));
        }
        IS.same("10: the node 0 is still open", "o", Checks.states(refused));
    }

    /** "As many as are told, or as long as there are open ones." */
    private static void solveAsManyAsTold() {
        for (int told = 1; told <= 12; told++) {
            BranchQuarry q = Programs.two('b', 'f');
            int left = 11;
            while (left > 0) {
                int due = Math.min(told, left);
                IS.same("10: " + told + " of " + left, due, q.solve(told));
                left -= due;
            }
            IS.same("10: none is open any more", 0, q.solve(told));
            IS.same("10: in whatever steps", "pppspbipisi", Checks.states(q));
        }
    }

    /** "If there is no tree." */
    private static void solveWithoutATree() {
        BranchQuarry q = Programs.two();
        IS.fails("10: no tree", q, STATE, () -> q.solve(1));
        IS.fails("10: no tree", q, STATE, () -> q.solve(41));
        q.begin('b', 'f');
        IS.same("10: a tree", 1, q.solve(1));
    }

    /** "The order 'b' solves the open node with the least bound first, of several the lowest number." */
    private static void leastBoundFirst() {
        // x + 2y <= 4 and 3y <= 2: the values are -14/3, then -4 down and -9/2 up.
        BranchQuarry q = new BranchQuarry();
        q.addColumn(-1, 0, 3, true);
        q.addColumn(-3, 0, 4, true);
        q.addRow('l', 4, 1, 2, 0, 0);
        q.addRow('l', 2, 0, 3, 0, 0);
        q.begin('b', 'f');
        q.solve(2);
        IS.same("10: of two with the bound -14/3 the lowest number", "ppooo", Checks.states(q));
        q.solve(1);
        IS.same("10: -14/3 before -4", "pppoooo", Checks.states(q));
        IS.same("17: -4 and -9/2", Checks.fraction(-4, 1) + " " + Checks.fraction(-9, 2),
                q.value(1) + " " + q.value(2));
        q.solve(1);
        IS.same("10: -9/2 before -4, and the lowest number of two", "pppooso", Checks.states(q));

        // All values are 0, so the nodes are solved by rising numbers, whatever their parents are.
        BranchQuarry even = Programs.columns(-9, 9, 0, 0, 0);
        even.addRow('e', 1, 2, 2, 2, 0);
        even.begin('b', 'f');
        for (int k = 0; k < 12; k++) {
            IS.same("10: the node " + k + " is open", 'o', even.state(k));
            even.solve(1);
            IS.same("10: then it is not", false, even.state(k) == 'o');
        }
    }

    /** "The order 'd' [solves] the open node with the greatest number." */
    private static void greatestNumberFirst() {
        BranchQuarry q = Programs.columns(-9, 9, 0, 0, 0);
        q.addRow('e', 1, 2, 2, 2, 0);
        q.begin('d', 'f');
        for (int k = 0; k < 25; k++) {
            int next = Checks.states(q).lastIndexOf('o');
            q.solve(1);
            IS.same("10: the greatest open number " + next, false, q.state(next) == 'o');
            for (int below = 0; below < next; below++) {
                if (Checks.states(q).charAt(below) == 'o') {
                    IS.same("10: the node " + below + " was not solved", "NoSuchElementException",
                            Checks.answer(valueOf(q, below)));
                }
            }
        }
    }

    private static java.util.function.Supplier<Object> valueOf(BranchQuarry q, int node) {
        return () -> q.value(node);
    }

    /** "If ... the value is not less than its cost, it is 'b'." */
    private static void closedByItsBoundOrNot() {
        BranchQuarry equal = Programs.columns(0, 5, -2, 0);
        equal.addRow('l', 5, 1, 2, 0, 0);
        equal.addRow('g', 1, 0, 2, 0, 0);
        equal.begin('b', 'f');
        equal.solve(1);
        IS.same("17: x is 4 and y is 1/2", Checks.fraction(-8, 1), equal.value(0));
        equal.begin('b', 'f');
        equal.offer(3, 1, 0, 0);
        equal.solve(41);
        IS.same("10: -6 is not less than -6, with a point of whole numbers", "pib", Checks.states(equal));
        equal.begin('b', 'f');
        equal.offer(2, 1, 0, 0);
        equal.solve(41);
        IS.same("10: -6 is less than -4", "pis", Checks.states(equal));
        BranchQuarry more = Programs.two('b', 'f');
        more.solve(41);
        IS.same("22: the best one", Checks.fraction(-12, 1), more.best());
        IS.same("10: -11 is not less than -12, in the node 5", "b " + Checks.fraction(-11, 1),
                more.state(5) + " " + more.value(5));
    }

    /** The same where values are fractions. */
    private static void closedByAFractionOrNot() {
        BranchQuarry q = new BranchQuarry();
        q.addColumn(0, 0, 9, true);
        q.addColumn(-1, 0, 9, false);
        q.addRow('g', 1, 2, 0, 0, 0);
        q.addRow('l', 7, 0, 3, 0, 0);
        q.begin('b', 'f');
        q.solve(1);
        IS.same("10: 1/2 is not whole", "poo", Checks.states(q));
        IS.same("21: rounded up to 1, and 7/3", true, q.round(0));
        q.solve(41);
        IS.same("10: -7/3 is not less than -7/3", "pib", Checks.states(q));
        BranchQuarry less = Programs.columns(0, 9, -1);
        less.addRow('l', 13, 4, 0, 0, 0);
        less.begin('b', 'f');
        less.offer(3, 0, 0, 0);
        less.solve(1);
        IS.same("10: -13/4 is less than -3", "poo", Checks.states(less));
        less.solve(41);
        IS.same("10: -3 is not", "pbi", Checks.states(less));
    }

    /** "If its point has whole numbers for all whole columns, it is 's', and its point is the best." */
    private static void solutionOrNot() {
        for (int set = 0; set < 8; set++) {
            // The point is (1/2, 2/3, 3): the first two are whole columns or not.
            BranchQuarry q = new BranchQuarry();
            q.addColumn(-1, 0, 9, (set & 1) != 0);
            q.addColumn(-1, 0, 9, (set & 2) != 0);
            q.addColumn(-1, 0, 3, (set & 4) != 0);
            q.addRow('l', 1, 2, 0, 0, 0);
            q.addRow('l', 2, 0, 3, 0, 0);
            q.begin('b', 'f');
            q.solve(1);
            boolean isDue = (set & 3) == 0;
            IS.same("10: whole columns " + set, isDue ? "s" : "poo", Checks.states(q));
            IS.same("22: the best solution, if it is one",
                    isDue ? "" + Checks.fraction(-25, 6) : "NoSuchElementException", Checks.answer(q::best));
            IS.same("12: open nodes", isDue ? 0 : 2, q.open());
        }
    }

    /** "With the value of the column in the point, rounded down, as its upper bound, ... 1 more than that". */
    private static void branchedAtTheValueRoundedDown() {
        int[][] cases = {{7, 2, 3}, {-7, 2, -4}, {1, 5, 0}, {-1, 5, -1}, {44, 5, 8}, {-44, 5, -9}, {4, 5, 0},
            {-4, 5, -1}, {1, 2, 0}, {-1, 2, -1}, {17, 2, 8}, {-17, 2, -9}, {-26, 3, -9}, {26, 3, 8}};
        for (int[] of : cases) {
            BranchQuarry q = Programs.columns(-9, 9, 1);
            q.addRow('g', of[0], of[1], 0, 0, 0);
            q.begin('b', 'f');
            q.solve(1);
            String what = of[0] + "/" + of[1];
            IS.same("18: " + what, Checks.fraction(of[0], of[1]), q.point(0, 0));
            IS.same("16: " + what + " rounded down, for the first one", of[2], q.upperAt(1, 0));
            IS.same("15: and 1 more, for the second one", of[2] + 1, q.lowerAt(2, 0));
            IS.same("15: the other bounds stay", "-9 9", q.lowerAt(1, 0) + " " + q.upperAt(2, 0));
            IS.same("15: and those of the node", "-9 9", q.lowerAt(0, 0) + " " + q.upperAt(0, 0));
        }
    }

    /** "At most 41 nodes"; "if there would be more than 41 nodes, it stays open instead". */
    private static void at39And41Nodes() {
        for (char order : new char[] {'b', 'd'}) {
            BranchQuarry q = Programs.never();
            q.begin(order, 'f');
            while (q.nodes() < 39) {
                IS.same("10: one more", 1, q.solve(1));
            }
            int steps = 0;
            while (q.nodes() == 39 && steps < 39) {
                IS.same("10: one more, from 39 nodes on", 1, q.solve(1));
                steps++;
            }
            IS.same("10: with 39 nodes one is branched", 41, q.nodes());
            while (q.solve(1) == 1) {
                IS.same("10: with 41 nodes none is branched", 41, q.nodes());
            }
            int open = q.open();
            IS.same("10: it stays open", true, open > 0);
            IS.same("10: solving stops", "0 0 0", q.solve(41) + " " + q.solve(1) + " " + q.solve(2));
            IS.same("12: all stay open", open, q.open());
            IS.same("11: 41 nodes", 41, q.nodes());
            IS.same("19: a bound of 41 nodes", Checks.fraction(0, 1), q.bound());
            IS.same("13: the last number", true, q.state(40) == 'o' || q.state(40) == 'i');
            IS.fails("13: no node 41", q, NONE, () -> q.state(41));
        }
    }

    /** "As if it had not been looked at": no cut grows old, and no gain is learnt. */
    private static void stuckAsIfNotLookedAt() {
        for (char order : new char[] {'b', 'd'}) {
            for (char rule : new char[] {'f', 'h', 'l'}) {
                BranchQuarry q = Programs.never();
                q.begin(order, rule);
                q.solve(41);
                q.cutByRounding(0, 0, 5);
                IS.same("32: a new cut", 0, q.age(0));
                String before = Checks.picture(q);
                IS.same("10: stuck", 0, q.solve(41));
                IS.same("10: nothing is other than before", before, Checks.picture(q));
                q.addRow('l', 9, 1, 0, 0, 0);
                IS.same("10: still stuck", 0, q.solve(1));
                IS.same("32: the cut is not older", 0, q.age(0));
            }
        }
    }

    /** "As if it had not been looked at": a gain that would be other than the ones that were learnt. */
    private static void stuckLearnsNoGain() {
        for (char order : new char[] {'b', 'd'}) {
            BranchQuarry q = Programs.columns(-9, 9, 9, -9);
            q.addRow('e', 1, 2, 2, 0, 0);
            q.begin(order, 'l');
            q.solve(41);
            IS.same("10: stuck", "41 0", q.nodes() + " " + q.solve(1));
            String before = gains(q, 2);
            q.addRow('g', 5, 1, 0, 0, 0);
            IS.same("10: stuck, with a greater value by far", 0, q.solve(1));
            IS.same("33: nothing is learnt", before, gains(q, 2));
            IS.same("12: it is open", true, q.open() > 0);
        }
    }

    /**
     * z + 2x + 2y = 1 with all costs 0: where z is 0 the nodes branch x and y, and the nodes in which
     * z must be 1 have lower numbers, so that the order 'd' leaves them for the end.
     */
    private static BranchQuarry stuck() {
        BranchQuarry q = new BranchQuarry();
        q.addColumn(0, 0, 1, true);
        q.addColumn(0, -9, 9, true);
        q.addColumn(0, -9, 9, true);
        q.addRow('e', 1, 1, 2, 2, 0);
        q.begin('d', 'f');
        q.solve(41);
        IS.same("10: 41 nodes", 41, q.nodes());
        IS.same("10: stuck", 0, q.solve(41));
        return q;
    }

    /** With 41 nodes a node may still be closed by its bound. */
    private static void closedByTheirBoundAt41Nodes() {
        BranchQuarry q = stuck();
        String before = Checks.states(q);
        IS.same("20: a solution", true, q.offer(1, 0, 0, 0));
        IS.same("10: all open ones are solved", 11, q.solve(41));
        IS.same("10: all by their bounds", before.replace('o', 'b'), Checks.states(q));
    }

    /** With 41 nodes a node may still be closed by a solution. */
    private static void solutionsAt41Nodes() {
        BranchQuarry q = stuck();
        int last = Checks.states(q).lastIndexOf('o');
        q.addRow('g', 1, 1, 0, 0, 0);
        IS.same("3: without a best solution the tree stays", 41, q.nodes());
        IS.same("10: one is solved", 1, q.solve(1));
        IS.same("10: by a solution", 's', q.state(last));
        IS.same("22: its cost", Checks.fraction(0, 1), q.best());
        IS.same("23: z is 1", Checks.fraction(1, 1), q.solution(0));
        IS.same("10: the others too", 10, q.solve(41));
        IS.same("10: no other one is a better solution", last, Checks.states(q).lastIndexOf('s'));
    }

    /** With 41 nodes a node may still have no point. */
    private static void withoutPointsAt41Nodes() {
        BranchQuarry q = stuck();
        String before = Checks.states(q);
        q.addRow('l', -1, 0, 0, 0, 0);
        IS.same("10: all open ones are solved", 11, q.solve(41));
        IS.same("10: none has a point", before.replace('o', 'i'), Checks.states(q));
        BranchQuarry even = Programs.never();
        even.begin('b', 'f');
        even.solve(41);
        even.addRow('l', -1, 0, 0, 0, 0);
        IS.same("10: both are solved", 2, even.solve(41));
        IS.same("12: none is open", 0, even.open());
    }

    /** Whole columns at most top / bottom each, which is their value in the point. */
    private static BranchQuarry values(char rule, int... fractions) {
        int count = fractions.length / 2;
        int[] costs = new int[count];
        java.util.Arrays.fill(costs, -1);
        BranchQuarry q = Programs.columns(-9, 9, costs);
        for (int j = 0; j < count; j++) {
            int[] co = new int[4];
            co[j] = fractions[2 * j + 1];
            q.addRow('l', fractions[2 * j], co[0], co[1], co[2], co[3]);
        }
        q.begin('b', rule);
        q.solve(1);
        return q;
    }

    /** The column whose bounds the nodes 1 and 2 got. */
    private static int branched(BranchQuarry q, int columns) {
        int found = -1;
        for (int j = 0; j < columns; j++) {
            if (q.upperAt(1, j) != q.upperAt(0, j)) {
                IS.same("10: one column alone", -1, found);
                found = j;
            }
        }
        return found;
    }

    /** "It is a whole column whose value in the point is not whole"; "'f' takes ... the lowest number". */
    private static void lowestNumber() {
        IS.same("10: all are fractions", 0, branched(values('f', 1, 3, 1, 2, 1, 2, 1, 2), 4));
        IS.same("10: column 0 is 2", 1, branched(values('f', 4, 2, 1, 3, 1, 2, 1, 2), 4));
        IS.same("10: columns 0 and 1 are -2 and 0", 2, branched(values('f', -4, 2, 0, 3, 1, 5, 1, 2), 4));
        IS.same("10: column 3 alone", 3, branched(values('f', 2, 2, -9, 3, 5, 5, 1, 2), 4));
        BranchQuarry loose = new BranchQuarry();
        loose.addColumn(-1, 0, 9, false);
        loose.addColumn(-1, 0, 9, true);
        loose.addRow('l', 1, 2, 0, 0, 0);
        loose.addRow('l', 1, 0, 3, 0, 0);
        for (char rule : new char[] {'f', 'h', 'l'}) {
            loose.begin('b', rule);
            loose.solve(1);
            IS.same("10: not a column that is not whole, by " + rule, 1, branched(loose, 2));
        }
    }

    /** "'h' the one whose value is nearest to the middle ..., of several the one with the lowest number". */
    private static void nearestToTheMiddle() {
        IS.same("10: 1/3 and 2/3 are as near", 0, branched(values('h', 1, 3, 2, 3), 2));
        IS.same("10: 2/3 and 1/3 are as near", 0, branched(values('h', 2, 3, 1, 3), 2));
        IS.same("10: 2/5 and 3/5 are as near", 0, branched(values('h', 2, 5, 3, 5), 2));
        IS.same("10: 1/2 and 3/2 are as near", 0, branched(values('h', 1, 2, 3, 2), 2));
        IS.same("10: 1/2 is nearer than 2/5", 1, branched(values('h', 2, 5, 1, 2), 2));
        IS.same("10: 2/5 is nearer than 1/3", 1, branched(values('h', 1, 3, 2, 5), 2));
        IS.same("10: 2/3 is nearer than 3/4", 1, branched(values('h', 3, 4, 2, 3), 2));
        IS.same("10: 3/4 is not nearer than 2/3", 0, branched(values('h', 2, 3, 3, 4), 2));
        IS.same("10: -1/3 and -2/3 are as near", 0, branched(values('h', -1, 3, -2, 3), 2));
        IS.same("10: -2/5 is nearer than -1/5", 1, branched(values('h', -1, 5, -2, 5), 2));
        IS.same("10: -3/5 is nearer than -1/4", 1, branched(values('h', -1, 4, -3, 5), 2));
        IS.same("10: 1/4 is nearer than the whole number 4", 1, branched(values('h', 4, 1, 1, 4), 2));
        IS.same("10: of 1/5, 1/2, 3/2 and 2/5", 1, branched(values('h', 1, 5, 1, 2, 3, 2, 2, 5), 4));
        IS.same("10: of 0, 1, 4/5 and 3/4", 3, branched(values('h', 0, 1, 1, 1, 4, 5, 3, 4), 4));
    }

    private static void solveUntil(BranchQuarry q, int node) {
        while (q.nodes() <= node || q.state(node) == 'o') {
            IS.same("10: towards the node " + node, 1, q.solve(1));
        }
    }

    private static String gains(BranchQuarry q, int columns) {
        StringBuilder all = new StringBuilder();
        for (int j = 0; j < columns; j++) {
            all.append(j == 0 ? "" : " ").append(q.gain(j, false)).append(',').append(q.gain(j, true));
        }
        return all.toString();
    }

    /** "The score is the lesser one of the gains down and up": here that down. */
    private static void lesserGainDown() {
        BranchQuarry q = new BranchQuarry();
        q.addColumn(-1, 0, 2, true);
        q.addColumn(-1, 0, 5, true);
        q.addColumn(-2, 0, 2, true);
        q.addRow('l', 2, 0, 4, 4, 0);
        q.addRow('l', 3, 2, 0, 3, 0);
        q.begin('d', 'l');
        solveUntil(q, 3);
        int first = q.nodes() - 2;
        IS.same("14: the node 3 is branched last", 3, q.parent(first));
        IS.same("33: columns 0 and 2", "0,1 1,1", gains(q, 1) + " " + q.gain(2, false) + "," + q.gain(2, true));
        IS.same("18: both are fractions there", "false false",
                isWhole(q.point(3, 0)) + " " + isWhole(q.point(3, 2)));
        IS.same("10: so it is column 2", q.upperAt(first, 2) + 1, q.lowerAt(first + 1, 2));
        IS.same("10: not column 0", q.upperAt(3, 0), q.upperAt(first, 0));
    }

    private static boolean isWhole(long told) {
        return Math.floorMod(told, 100000L) == 1;
    }

    /** "'l' the one with the greatest score": 2 against 1. */
    private static void scoreAboveOne() {
        BranchQuarry q = new BranchQuarry();
        q.addColumn(-7, 0, 2, true);
        q.addColumn(-1, 0, 3, true);
        q.addColumn(-4, 0, 5, true);
        q.addRow('l', 5, 2, 0, 1, 0);
        q.addRow('l', 10, 1, 2, 3, 0);
        q.begin('d', 'l');
        solveUntil(q, 1);
        int first = q.nodes() - 2;
        IS.same("14: the node 1 is branched last", 1, q.parent(first));
        IS.same("33: columns 0 and 2", "1,1 2,5", gains(q, 1) + " " + q.gain(2, false) + "," + q.gain(2, true));
        IS.same("18: both are fractions there", "false false",
                isWhole(q.point(1, 0)) + " " + isWhole(q.point(1, 2)));
        IS.same("10: so it is column 2", q.upperAt(first, 2) + 1, q.lowerAt(first + 1, 2));
        IS.same("10: not column 0", q.upperAt(1, 0), q.upperAt(first, 0));
    }

    /** "Of several the one with the lowest number", though the greater one of its gains is less. */
    private static void equalScores() {
        BranchQuarry q = new BranchQuarry();
        q.addColumn(-6, 0, 6, true);
        q.addColumn(-9, 0, 3, true);
        q.addColumn(-9, 0, 4, true);
        q.addRow('l', 8, 5, 2, 0, 0);
        q.addRow('l', 7, 0, 2, 4, 0);
        q.addRow('l', 9, 0, 1, 0, 0);
        q.begin('b', 'l');
        solveUntil(q, 5);
        int first = q.nodes() - 2;
        IS.same("14: the node 5 is branched last", 5, q.parent(first));
        IS.same("33: columns 0 and 2", "2,3 2,6", gains(q, 1) + " " + q.gain(2, false) + "," + q.gain(2, true));
        IS.same("18: both are fractions there", "false false",
                isWhole(q.point(5, 0)) + " " + isWhole(q.point(5, 2)));
        IS.same("10: so it is column 0", q.upperAt(first, 0) + 1, q.lowerAt(first + 1, 0));
        IS.same("10: not column 2", q.upperAt(5, 2), q.upperAt(first, 2));
    }

    /** "Cuts grow old and its gain is learnt first": it counts for the branching of the node itself. */
    private static void ownGainIsLearntFirst() {
        BranchQuarry q = Programs.columns(0, 9, -1, -1);
        q.addRow('l', 3, 2, 0, 0, 0);
        q.addRow('l', 2, 0, 3, 0, 0);
        q.begin('b', 'l');
        q.solve(1);
        IS.same("10: of two scores of 1 column 0", 0, branched(q, 2));
        q.addRow('l', 2, 3, 0, 0, 0);
        q.solve(1);
        IS.same("18: both are 2/3 in the node 1", Checks.fraction(2, 3) + " " + Checks.fraction(2, 3),
                q.point(1, 0) + " " + q.point(1, 1));
        IS.same("33: 5/6 rounded down, of column 0 down", 0, q.gain(0, false));
        IS.same("10: so its score is less than that of column 1", "1 0 1",
                q.upperAt(3, 0) + " " + q.upperAt(3, 1) + " " + q.lowerAt(4, 1));
    }

    // Promises 11 to 18.

    /** "If there is no such node." */
    private static void numbersOfNodes() {
        BranchQuarry q = Programs.two('b', 'f');
        for (int step = 0; step < 12; step++) {
            int nodes = q.nodes();
            IS.same("13: the last one", true, "oibsp".indexOf(q.state(nodes - 1)) >= 0);
            for (int none : new int[] {-1, nodes, nodes + 1}) {
                IS.same("13: node " + none, "IndexOutOfBoundsException", Checks.answer(() -> q.state(none)));
                IS.same("14: node " + none, "IndexOutOfBoundsException", Checks.answer(() -> q.parent(none)));
                IS.same("17: node " + none, "IndexOutOfBoundsException", Checks.answer(() -> q.value(none)));
                IS.same("21: node " + none, "IndexOutOfBoundsException", Checks.answer(() -> q.round(none)));
            }
            q.solve(1);
        }
        for (int far : FAR) {
            IS.fails("13: node " + far, q, NONE, () -> q.state(far));
            IS.fails("14: node " + far, q, NONE, () -> q.parent(far));
            IS.fails("17: node " + far, q, NONE, () -> q.value(far));
            IS.fails("21: node " + far, q, NONE, () -> q.round(far));
        }
    }

    /** "If there is no such node or column." */
    private static void numbersOfNodesAndColumns() {
        String none = "IndexOutOfBoundsException";
        for (int columns = 1; columns <= 4; columns++) {
            BranchQuarry q = Programs.columns(-1, 1, new int[columns]);
            q.begin('b', 'f');
            q.solve(1);
            for (int k = -1; k <= 1; k++) {
                for (int j = -1; j <= 5; j++) {
                    int node = k;
                    int column = j;
                    boolean isDue = node == 0 && column >= 0 && column < columns;
                    String what = "node " + node + ", column " + column + " of " + columns;
                    IS.same("15: " + what, isDue ? "-1" : none, Checks.answer(() -> q.lowerAt(node, column)));
                    IS.same("16: " + what, isDue ? "1" : none, Checks.answer(() -> q.upperAt(node, column)));
                    IS.same("18: " + what, isDue ? "-99999" : none, Checks.answer(() -> q.point(node, column)));
                }
            }
            for (int far : FAR) {
                IS.fails("15: node " + far, q, NONE, () -> q.lowerAt(far, 0));
                IS.fails("15: column " + far, q, NONE, () -> q.lowerAt(0, far));
                IS.fails("16: node " + far, q, NONE, () -> q.upperAt(far, 0));
                IS.fails("16: column " + far, q, NONE, () -> q.upperAt(0, far));
                IS.fails("18: node " + far, q, NONE, () -> q.point(far, 0));
                IS.fails("18: column " + far, q, NONE, () -> q.point(0, far));
            }
        }
    }

    /** "If it is the node 0." */
    private static void parents() {
        BranchQuarry q = Programs.never();
        q.begin('d', 'f');
        IS.fails("14: the node 0 alone", q, NOTHING, () -> q.parent(0));
        q.solve(41);
        IS.fails("14: the node 0 of 41", q, NOTHING, () -> q.parent(0));
        for (int k = 1; k < 41; k++) {
            int parent = q.parent(k);
            IS.same("14: the parent of node " + k, true, parent >= 0 && parent < k && q.state(parent) == 'p');
            IS.same("14: it has two, one after the other", k % 2 == 1 ? q.parent(k + 1) : q.parent(k - 1), parent);
        }
    }

    /** "If it is open, or has no point": by all five states. */
    private static void pointsOrNot() {
        BranchQuarry q = Programs.two('b', 'f');
        for (int step = 0; step < 12; step++) {
            for (int k = 0; k < q.nodes(); k++) {
                int node = k;
                String due = "bsp".indexOf(q.state(node)) >= 0 ? "a number" : "NoSuchElementException";
                IS.same("17: of the state " + q.state(node), due, numberOr(Checks.answer(() -> q.value(node))));
                IS.same("18: of the state " + q.state(node), due, numberOr(Checks.answer(() -> q.point(node, 1))));
            }
            q.solve(1);
        }
        IS.same("13: all solved states were there", "pppspbipisi", Checks.states(q));
        BranchQuarry full = Programs.never();
        full.begin('b', 'f');
        full.solve(41);
        IS.same("13: node 39 stays open", 'o', full.state(39));
        IS.fails("17: though it would have a value", full, NOTHING, () -> full.value(39));
        IS.fails("18: and a point", full, NOTHING, () -> full.point(39, 0));
        IS.fails("21: to be rounded", full, NOTHING, () -> full.round(39));
    }

    private static String numberOr(String answer) {
        return answer.matches("-?\\d+") ? "a number" : answer;
    }

    private static String leastPoint(int[] costs, int[]... rows) {
        BranchQuarry q = new BranchQuarry();
        for (int cost : costs) {
            q.addColumn(cost, 0, 9, false);
        }
        for (int[] row : rows) {
            q.addRow((char) row[0], row[1], row[2], row[3], row[4], row[5]);
        }
        q.begin('b', 'f');
        q.solve(1);
        StringBuilder all = new StringBuilder();
        for (int j = 0; j < costs.length; j++) {
            long told = q.point(0, j);
            long bottom = Math.floorMod(told, 100000L);
            all.append(j == 0 ? "" : " ").append(Math.floorDiv(told, 100000L));
            all.append(bottom == 1 ? "" : "/" + bottom);
        }
        return all.toString();
    }

    /** "Of several, the one with the least value of the column 0, of several of the column 1, and so on." */
    private static void leastPointsOfSeveral() {
        int[] free = {0, 0, 0, 0};
        int[] ones = {1, 1, 1, 1};
        IS.same("18: no rows", "0 0 0 0", leastPoint(free));
        IS.same("18: a sum of at least 9", "0 0 0 9", leastPoint(free, new int[] {'g', 9, 1, 1, 1, 1}));
        IS.same("18: at least 10", "0 0 1 9", leastPoint(free, new int[] {'g', 10, 1, 1, 1, 1}));
        IS.same("18: at least 20", "0 2 9 9", leastPoint(free, new int[] {'g', 20, 1, 1, 1, 1}));
        IS.same("18: at least 28", "1 9 9 9", leastPoint(free, new int[] {'g', 28, 1, 1, 1, 1}));
        IS.same("18: at least 36", "9 9 9 9", leastPoint(free, new int[] {'g', 36, 1, 1, 1, 1}));
        IS.same("18: costs that are alike", "0 2 9 9", leastPoint(ones, new int[] {'g', 20, 1, 1, 1, 1}));
        IS.same("18: the cost comes first", "9 9 0 2",
                leastPoint(new int[] {1, 1, 2, 2}, new int[] {'g', 20, 1, 1, 1, 1}));
        IS.same("18: then column 0", "0 9 2 9", leastPoint(new int[] {2, 1, 2, 1}, new int[] {'g', 20, 1, 1, 1, 1}));
        IS.same("18: costs under 0", "0 2 9 9",
                leastPoint(new int[] {-1, -1, -1, -1}, new int[] {'l', 20, 1, 1, 1, 1}));
        IS.same("18: column 0 before column 1", "0 7/2 0 0", leastPoint(free, new int[] {'e', 7, 2, 2, 0, 0}));
        IS.same("18: column 1 before column 2", "0 0 7/2 0", leastPoint(free, new int[] {'e', 7, 0, 2, 2, 0}));
        IS.same("18: column 2 before column 3", "0 0 0 7/2", leastPoint(free, new int[] {'e', 7, 0, 0, 2, 2}));
        IS.same("18: as little of column 0 as can be", "5/2 9 0 0", leastPoint(free, new int[] {'e', 23, 2, 2, 0, 0}));
        IS.same("18: a great column 1 for a small column 0", "0 9 0 0",
                leastPoint(free, new int[] {'l', -9, 5, -1, 0, 0}));
        IS.same("18: two rows", "0 1 3 0",
                leastPoint(free, new int[] {'g', 4, 1, 1, 1, 0}, new int[] {'l', 3, 0, 0, 1, 0}));
    }

    /** "100000 times its top plus its bottom, in lowest terms, with a bottom greater than 0." */
    private static void fractionsAsTold() {
        int[][] cases = {{0, 1}, {0, 5}, {1, 1}, {-1, 1}, {9, 1}, {-9, 1}, {1, 2}, {-1, 2}, {2, 4}, {-2, 4}, {3, 3},
            {4, 5}, {-4, 5}, {6, 4}, {-6, 4}, {44, 5}, {-44, 5}, {45, 5}, {-45, 5}};
        for (int[] of : cases) {
            BranchQuarry q = Programs.columns(-9, 9, 3);
            q.addRow('e', of[0], of[1], 0, 0, 0);
            q.begin('b', 'f');
            q.solve(1);
            int common = java.math.BigInteger.valueOf(of[0]).gcd(java.math.BigInteger.valueOf(of[1])).intValue();
            IS.same("18: " + of[0] + "/" + of[1], 100000L * (of[0] / common) + of[1] / common, q.point(0, 0));
            int thrice = java.math.BigInteger.valueOf(3L * of[0]).gcd(java.math.BigInteger.valueOf(of[1])).intValue();
            long told = 100000L * (3 * of[0] / thrice) + of[1] / thrice;
            IS.same("17: three times " + of[0] + "/" + of[1], told, q.value(0));
            q.solve(41);
            IS.same("19: its bound", of[0] % of[1] == 0 ? "" + told : "NoSuchElementException",
                    Checks.answer(q::bound));
        }
        BranchQuarry least = Programs.columns(-9, 9, 9, 9, 9, 9);
        least.begin('b', 'f');
        least.solve(1);
        IS.same("17: the least value there can be", -32399999L, least.value(0));
        IS.same("22: the least cost there can be", -32399999L, least.best());
        BranchQuarry greatest = Programs.columns(9, 9, 9, 9, 9, 9);
        greatest.begin('b', 'f');
        greatest.solve(1);
        IS.same("17: the greatest value there can be", 32400001L, greatest.value(0));
    }

    /** 4 columns, 8 rows of sense 'e' and 16 cuts, of which the last ones count as well. */
    private static void allLimitsAtOnce() {
        BranchQuarry q = Programs.columns(0, 9, 0, 0, 0, 0);
        for (int k = 0; k < 7; k++) {
            q.addRow('e', 0, 0, 0, 0, 0);
        }
        q.addRow('e', 7, 1, 1, 0, 0);
        q.begin('b', 'f');
        q.solve(1);
        IS.same("18: the row 7 counts", "1 700001", q.point(0, 0) + " " + q.point(0, 1));
        q.begin('b', 'f');
        for (int k = 0; k < 15; k++) {
            IS.same("25: a cut", k, q.cutByRounding(0, 0, 2));
        }
        IS.same("27: the last cut", 15, q.cutByLikeness(0, 1));
        q.solve(1);
        IS.same("18: the cut 15 counts", "700002 700002", q.point(0, 0) + " " + q.point(0, 1));
        BranchQuarry clash = Programs.columns(0, 9, 0, 0, 0, 0);
        for (int k = 0; k < 7; k++) {
            clash.addRow('e', 0, 0, 0, 0, 0);
        }
        clash.addRow('e', 19, 1, 1, 0, 0);
        IS.same("8: the row 7 counts", 128, clash.unkept());
    }

    // Promise 19, and the counts of 11 and 12.

    /** "If there is no tree, or the node 0 is open, or there are no open nodes and no best solution." */
    private static void boundOrNot() {
        BranchQuarry q = Programs.two();
        IS.fails("19: no tree", q, NOTHING, q::bound);
        q.begin('b', 'f');
        IS.fails("19: the node 0 is open", q, NOTHING, q::bound);
        q.offer(0, 0, 0, 0);
        IS.fails("19: the node 0 is open, a best solution or not", q, NOTHING, q::bound);
        q.begin('b', 'f');
        q.solve(1);
        IS.same("19: open nodes, no best solution", Checks.fraction(-57, 4), q.bound());
        q.solve(41);
        IS.same("19: no open nodes, a best solution", Checks.fraction(-12, 1), q.bound());
        BranchQuarry none = Programs.columns(0, 1, 0);
        none.addRow('e', 1, 2, 0, 0, 0);
        none.begin('b', 'f');
        none.solve(2);
        IS.same("19: one open node, no best solution", Checks.fraction(0, 1), none.bound());
        none.solve(1);
        IS.same("13: no point anywhere", "pii", Checks.states(none));
        IS.fails("19: no open nodes, no best solution", none, NOTHING, none::bound);
    }

    /** "The least one of the bounds of all open nodes, and of the cost of the best solution." */
    private static void boundOfBestAndOpenNodes() {
        // (3/4, 1/4) of the value -1; x <= 0 gives -2/5, x >= 1 the solution (1, 0) of -1.
        BranchQuarry q = new BranchQuarry();
        q.addColumn(-1, 0, 6, true);
        q.addColumn(-1, 0, 1, true);
        q.addRow('l', 2, 1, 5, 0, 0);
        q.addRow('l', 1, 1, 1, 0, 0);
        q.begin('b', 'f');
        q.solve(2);
        IS.same("13: the node 2 is open", "ppooo", Checks.states(q));
        IS.same("19: -1 of the node 2, and -2/5", Checks.fraction(-1, 1), q.bound());
        IS.same("20: (0, 0)", true, q.offer(0, 0, 0, 0));
        IS.same("19: an open node under the best solution", Checks.fraction(-1, 1), q.bound());
        q.solve(1);
        IS.same("13: the node 2 is a solution", "ppsoo", Checks.states(q));
        IS.same("17: the parent of the open ones", Checks.fraction(-2, 5), q.value(1));
        IS.same("19: the best solution under the open nodes", Checks.fraction(-1, 1), q.bound());
        q.solve(41);
        IS.same("19: the best solution alone", Checks.fraction(-1, 1), q.bound());
        BranchQuarry tree = Programs.two('b', 'f');
        tree.solve(1);
        tree.offer(0, 3, 0, 0);
        IS.same("19: two open nodes under the best solution", Checks.fraction(-57, 4), tree.bound());
    }

    /** "Returns the number of nodes, 0 without a tree." */
    private static void countsOfNodes() {
        BranchQuarry q = Programs.two();
        IS.same("11: without a tree", "0 0", q.nodes() + " " + q.open());
        q.begin('b', 'f');
        int[] nodes = {1, 3, 5, 7, 7, 9, 11, 11, 11, 11, 11, 11};
        for (int step = 0; step < 12; step++) {
            IS.same("11: after " + step + " nodes", nodes[step], q.nodes());
            IS.same("12: those that are not solved", nodes[step] - Math.min(step, 11), q.open());
            q.solve(1);
        }
        BranchQuarry one = Programs.columns(0, 1, 1);
        one.begin('b', 'f');
        one.solve(1);
        IS.same("12: one node, which is solved", "1 0", one.nodes() + " " + one.open());
    }
}
