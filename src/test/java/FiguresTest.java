/** Promises 34 and 35. */
public final class FiguresTest {
    private static final Checks IS = new Checks();

    public static void main(String[] args) {
        gap();
        gapNearZero();
        meanDepth();
        IS.end("FiguresTest");
    }

    private static void gap() {
        BranchQuarry q = Programs.two();
        IS.fails("34: no tree", q, ArithmeticException.class, q::gap);
        q.begin('b', 'f');
        IS.fails("34: nothing", q, ArithmeticException.class, q::gap);
        q.offer(0, 1, 0, 0);
        IS.fails("34: no bound", q, ArithmeticException.class, q::gap);
        q.begin('b', 'f');
        q.solve(1);
        IS.fails("34: no best solution", q, ArithmeticException.class, q::gap);
        q.offer(0, 1, 0, 0);
        IS.same("34: -4 and -57/4", 10.25f / 4f, q.gap());
        q.offer(1, 2, 0, 0);
        IS.same("34: -11 and -57/4", 3.25f / 11f, q.gap());
        q.solve(41);
        IS.same("34: both meet", 0f, q.gap());
        BranchQuarry thirds = new BranchQuarry();
        thirds.addColumn(-7, 0, 9, true);
        thirds.addRow('l', 7, 3, 0, 0, 0);
        thirds.begin('b', 'f');
        thirds.solve(1);
        thirds.offer(2, 0, 0, 0);
        IS.same("34: -14 and -49/3", (-14f - -49f / 3f) / 14f, thirds.gap());
        BranchQuarry above = new BranchQuarry();
        above.addColumn(7, 0, 9, true);
        above.addRow('g', 7, 3, 0, 0, 0);
        above.begin('b', 'f');
        above.solve(1);
        above.offer(5, 0, 0, 0);
        IS.same("34: 35 and 49/3", (35f - 49f / 3f) / 35f, above.gap());
        BranchQuarry never = new BranchQuarry();
        never.addColumn(1, 0, 1, true);
        never.addRow('l', -1, 1, 0, 0, 0);
        never.begin('b', 'f');
        never.solve(1);
        IS.fails("34: no solution at all", never, ArithmeticException.class, never::gap);
    }

    private static void gapNearZero() {
        BranchQuarry q = new BranchQuarry();
        q.addColumn(1, -9, 9, true);
        q.addColumn(0, 0, 1, false);
        q.addRow('g', -5, 3, 0, 0, 0);
        q.begin('b', 'f');
        q.solve(1);
        q.offer(0, 0, 0, 0);
        IS.same("34: 0 and -5/3, divided by 1", 5f / 3f, q.gap());
        q.begin('b', 'f');
        q.solve(1);
        q.offer(1, 0, 0, 0);
        IS.same("34: 1 and -5/3, divided by 1", 1f - -5f / 3f, q.gap());
        BranchQuarry more = new BranchQuarry();
        more.addColumn(1, 0, 9, false);
        more.addColumn(-2, 0, 9, true);
        more.addRow('g', 3, 2, 0, 0, 0);
        more.addRow('l', 1, 0, 2, 0, 0);
        more.begin('b', 'f');
        more.solve(2);
        IS.same("34: the best one of node 1", Checks.fraction(3, 2), more.best());
        IS.same("34: 3/2 and 1/2, divided by 3/2", 1f / 1.5f, more.gap());
        BranchQuarry half = new BranchQuarry();
        half.addColumn(1, -9, 9, false);
        half.addColumn(1, 0, 9, true);
        half.addRow('g', 2, 4, 5, 0, 0);
        half.addRow('g', 1, 2, 0, 0, 0);
        half.begin('b', 'f');
        half.solve(1);
        IS.same("34: 1/2 is the best one", Checks.fraction(1, 2), half.best());
        IS.same("34: 1/2 and itself", 0f, half.gap());
        BranchQuarry less = new BranchQuarry();
        less.addColumn(1, -1, 9, false);
        less.addColumn(-3, 0, 9, true);
        less.addRow('g', 1, 4, -4, 0, 0);
        less.addRow('l', 3, 4, 0, 0, 0);
        less.begin('b', 'f');
        less.solve(1);
        IS.same("34: the value of the node 0", Checks.fraction(-3, 4), less.value(0));
        less.solve(1);
        IS.same("34: the best one of node 1", Checks.fraction(1, 4), less.best());
        IS.same("34: 1/4 and -3/4, divided by 1", 1f, less.gap());
        less.solve(41);
        IS.same("34: at the end", 0f, less.gap());
    }

    private static void meanDepth() {
        BranchQuarry q = Programs.two();
        IS.fails("35: no tree", q, ArithmeticException.class, q::meanDepth);
        q.begin('b', 'f');
        IS.same("35: the node 0", 0.0, q.meanDepth());
        q.solve(1);
        IS.same("35: and two under it", 2.0 / 3.0, q.meanDepth());
        q.solve(1);
        IS.same("35: and two more", 6.0 / 5.0, q.meanDepth());
        q.solve(41);
        IS.same("35: at the end", 24.0 / 11.0, q.meanDepth());
        q.begin('d', 'f');
        IS.same("35: a new tree", 0.0, q.meanDepth());
    }
}
