import java.util.function.Supplier;

/** What the tests of the promises share: they count what is due and what is not. */
final class Checks {
    private int passed;
    private int failed;

    void same(String what, Object due, Object got) {
        if (due.equals(got)) {
            passed++;
        } else {
            failed++;
            System.out.println(what + " answered " + got + ", due is " + due);
        }
    }

    /** The call throws just that exception, and nothing that can be looked at is other than before. */
    void fails(String what, BranchQuarry on, Class<? extends RuntimeException> due, Supplier<Object> call) {
        String before = picture(on);
        same(what, due.getSimpleName(), answer(call));
        same(what + ", what can be looked at after it", before, picture(on));
    }

    /** Ends the program, with 1 if an answer was not due. */
    void end(String name) {
        System.out.println(name + ": " + passed + " checks passed, " + failed + " failed");
        if (failed != 0) {
            System.exit(1);
        }
    }

    /** What the call answers, or the plain name of what it throws. */
    static String answer(Supplier<Object> call) {
        try {
            return String.valueOf(call.get());
        } catch (RuntimeException e) {
            return e.getClass().getSimpleName();
        }
    }

    static long fraction(long top, long bottom) {
        return 100000 * top + bottom;
    }

    private static void put(StringBuilder to, Supplier<Object> call) {
        to.append(answer(call)).append(' ');
    }

    /** The answers of all calls that only look. */
    static String picture(BranchQuarry on) {
        StringBuilder to = new StringBuilder();
        put(to, on::nodes);
        put(to, on::open);
        put(to, on::cuts);
        put(to, on::bound);
        put(to, on::best);
        put(to, on::gap);
        put(to, on::meanDepth);
        put(to, on::unkept);
        put(to, on::bestByAll);
        for (int j = 0; j < 4; j++) {
            int column = j;
            put(to, () -> on.lower(column));
            put(to, () -> on.upper(column));
            put(to, () -> on.solution(column));
            put(to, () -> on.gain(column, false));
            put(to, () -> on.gain(column, true));
            for (int k = 0; k < 4; k++) {
                int other = k;
                put(to, () -> on.areAlike(column, other));
            }
        }
        for (int n = 0; n < on.nodes(); n++) {
            int node = n;
            put(to, () -> on.state(node));
            put(to, () -> on.parent(node));
            put(to, () -> on.value(node));
            for (int j = 0; j < 4; j++) {
                int column = j;
                put(to, () -> on.lowerAt(node, column));
                put(to, () -> on.upperAt(node, column));
                put(to, () -> on.point(node, column));
            }
        }
        for (int c = 0; c < on.cuts(); c++) {
            int cut = c;
            put(to, () -> on.kind(cut));
            put(to, () -> on.side(cut));
            put(to, () -> on.age(cut));
            for (int j = 0; j < 4; j++) {
                int column = j;
                put(to, () -> on.coefficient(cut, column));
            }
        }
        return to.toString();
    }

    /** The states of all nodes, in their order. */
    static String states(BranchQuarry on) {
        StringBuilder to = new StringBuilder();
        for (int n = 0; n < on.nodes(); n++) {
            to.append(on.state(n));
        }
        return to.toString();
    }

    /** A cut as its kind, its coefficients for as many columns, and its side. */
    static String cut(BranchQuarry on, int cut, int columns) {
        StringBuilder to = new StringBuilder();
        to.append(on.kind(cut));
        for (int j = 0; j < columns; j++) {
            to.append(' ').append(on.coefficient(cut, j));
        }
        return to.append(" <= ").append(on.side(cut)).toString();
    }
}
