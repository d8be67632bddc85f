/** The programs that several tests begin with. */
final class Programs {
    private Programs() {
    }

    /** As many whole columns with the same bounds as there are costs. */
    static BranchQuarry columns(int lower, int upper, int... costs) {
        BranchQuarry q = new BranchQuarry();
        for (int cost : costs) {
            q.addColumn(cost, lower, upper, true);
        }
        return q;
    }

    /** Whole columns from 0 to 1. */
    static BranchQuarry switches(int... costs) {
        return columns(0, 1, costs);
    }

    /** Maximise 3x + 4y under 2x + 4y <= 13 and 3x + 2y <= 9: the best solution is (0, 3). */
    static BranchQuarry two() {
        BranchQuarry q = columns(0, 9, -3, -4);
        q.addRow('l', 13, 2, 4, 0, 0);
        q.addRow('l', 9, 3, 2, 0, 0);
        return q;
    }

    static BranchQuarry two(char order, char rule) {
        BranchQuarry q = two();
        q.begin(order, rule);
        return q;
    }

    /** 2x + 2y = 1 from -9 to 9: points at every depth, but none of whole numbers. */
    static BranchQuarry never() {
        BranchQuarry q = columns(-9, 9, 0, 0);
        q.addRow('e', 1, 2, 2, 0, 0);
        return q;
    }
}
