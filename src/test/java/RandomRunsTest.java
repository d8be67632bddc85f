import java.lang.reflect.InvocationTargetException;
import java.lang.reflect.Method;
import java.util.Map;
import java.util.Random;
import java.util.TreeMap;

/**
 * Runs of calls, made by a fixed seed, on an object of the class and on the plain model: both must
 * answer alike, and after each call that tells or solves, all that can be looked at must be alike.
 */
public final class RandomRunsTest {
    private static final int RUNS = 1500;
    private static final Map<String, Method> SOLVER = methods(BranchQuarry.class);
    private static final Map<String, Method> MODEL = methods(PlainModel.class);
    private static final String[] RARE = {
        "tightened", "tighten empties a column", "unkept", "unlike", "unlike by a dropped cut",
        "begun anew with the best solution", "best lost", "tree stays", "too many nodes", "dropped",
        "rule l chose a later column", "cut r", "cut c", "cut k", "cut y",
        "left out of a cover again", "no choice to lift", "lifted",
        "offer taken", "round taken", "state b", "state s", "state p", "no point"
    };

    private final Random random;
    private final int run;
    private final BranchQuarry solver = new BranchQuarry();
    private final PlainModel model = new PlainModel();
    private final StringBuilder told = new StringBuilder();
    /** Most rows are made so that they hold there, or many programs would have no point at all. */
    private final int[] hidden = new int[4];
    private int columns;
    private boolean isWrong;

    private RandomRunsTest(int run) {
        this.run = run;
        random = new Random(run * 7919L + 1);
    }

    public static void main(String[] args) {
        int from = args.length > 0 ? Integer.parseInt(args[0]) : 0;
        int to = args.length > 1 ? Integer.parseInt(args[1]) : RUNS;
        int wrong = 0;
        Map<String, Integer> seen = new TreeMap<>();
        for (int run = from; run < to; run++) {
            RandomRunsTest test = new RandomRunsTest(run);
            test.go();
            wrong += test.isWrong ? 1 : 0;
            test.model.seen.forEach((k, v) -> seen.merge(k, v, Integer::sum));
            if (wrong > 5) {
                break;
            }
        }
        for (String what : RARE) {
            if (wrong == 0 && !seen.containsKey(what)) {
                System.out.println("the runs never met: " + what);
                wrong++;
            }
        }
        System.out.println("met in the runs: " + seen);
        System.out.println(wrong == 0 ? "all runs alike" : wrong + " runs are not alike");
        if (wrong != 0) {
            System.exit(1);
        }
    }

    private static Map<String, Method> methods(Class<?> owner) {
        Map<String, Method> all = new TreeMap<>();
        for (Method m : owner.getDeclaredMethods()) {
            if (java.lang.reflect.Modifier.isPublic(m.getModifiers())) {
                m.setAccessible(true);
                all.put(m.getName(), m);
            }
        }
        return all;
    }

    private static String answer(Method m, Object on, Object[] args) {
        try {
            return String.valueOf(m.invoke(on, args));
        } catch (InvocationTargetException e) {
            return "throws " + e.getCause().getClass().getName();
        } catch (IllegalAccessException e) {
            throw new IllegalStateException(e);
        }
    }

    private String call(String name, Object... args) {
        String got = answer(SOLVER.get(name), solver, args);
        String due = answer(MODEL.get(name), model, args);
        if (!got.equals(due) && !isWrong) {
            isWrong = true;
            System.out.println("run " + run + ":" + told);
            System.out.println("  " + name + java.util.Arrays.toString(args) + " answered " + got + ", due is " + due);
        }
        return got;
    }

    private void tell(String name, Object... args) {
        told.append("\n    ").append(name).append(java.util.Arrays.toString(args));
        told.append(" -> ").append(call(name, args));
        lookAtTree();
        if (name.startsWith("add") || name.equals("tighten")) {
            lookAtProgram();
        }
    }

    private void lookAtProgram() {
        call("unkept");
        for (int j = -1; j <= columns; j++) {
            call("lower", j);
            call("upper", j);
            for (int k = -1; k <= columns; k++) {
                call("areAlike", j, k);
            }
        }
    }

    private void lookAtTree() {
        int nodes = Integer.parseInt(call("nodes"));
        int cuts = Integer.parseInt(call("cuts"));
        for (String plain : new String[] {"open", "bound", "best", "gap", "meanDepth"}) {
            call(plain);
        }
        for (int j = -1; j <= columns; j++) {
            call("solution", j);
            call("gain", j, false);
            call("gain", j, true);
        }
        for (int n = -1; n <= nodes; n++) {
            call("state", n);
            call("parent", n);
            call("value", n);
            for (int j = -1; j <= columns; j++) {
                call("lowerAt", n, j);
                call("upperAt", n, j);
                call("point", n, j);
            }
        }
        for (int c = -1; c <= cuts; c++) {
            call("kind", c);
            call("side", c);
            call("age", c);
            for (int j = -1; j <= columns; j++) {
                call("coefficient", c, j);
            }
        }
    }

    private int between(int least, int greatest) {
        return least + random.nextInt(greatest - least + 1);
    }

    private boolean chance(int percent) {
        return random.nextInt(100) < percent;
    }

    private void go() {
        if (run % 4 == 3) {
            goDeep();
            return;
        }
        int shape = run % 6;
        columns = shape == 0 ? between(0, 4) : between(2, chance(60) ? 3 : 4);
        if (shape == 1 || shape == 5) {
            columns = between(3, 4);
        }
        tellColumns(shape);
        int rows = between(1, 4);
        for (int k = 0; k < rows; k++) {
            tellRow(shape);
        }
        if (chance(50)) {
            tell("tighten");
        }
        call("bestByAll");
        tell("begin", anyOf("bd"), anyOf("fhl"));
        int calls = between(10, 40);
        for (int k = 0; k < calls && !isWrong; k++) {
            tellOne(shape);
        }
        if (chance(30)) {
            call("bestByAll");
        }
    }

    /** Few rows and some cuts at the start, then node by node, so that cuts grow old and are dropped. */
    private void goDeep() {
        columns = between(2, 3);
        boolean isLike = chance(40);
        int cost = -between(0, 9);
        int high = between(1, 9);
        for (int j = 0; j < columns; j++) {
            if (isLike) {
                tellColumn(cost, 0, high, true);
            } else {
                int low = chance(30) ? -between(1, 3) : 0;
                tellColumn(-between(0, 9), low, between(low + 1, 8), chance(93));
            }
        }
        int rows = between(1, 3);
        for (int k = 0; k < rows; k++) {
            int same = between(1, 5);
            int[] co = new int[4];
            for (int j = 0; j < columns; j++) {
                co[j] = isLike && (j < 2 || chance(50)) ? same : between(0, 5);
            }
            tell("addRow", 'l', between(5, 25), co[0], co[1], co[2], co[3]);
        }
        tell("begin", chance(70) ? 'd' : 'b', anyOf("fhl"));
        for (int k = between(1, 3); k > 0; k--) {
            if (isLike && chance(60)) {
                tell("cutByLikeness", 0, 1);
            } else {
                tell("cutByRounding", 0, between(0, rows - 1), between(2, 5));
            }
        }
        for (int k = 0; k < 41 && !isWrong; k++) {
            tell("solve", 1);
            if (chance(4)) {
                tell("addRow", anyOf("lg"), between(5, 30), between(0, 2), between(0, 1), 0, 0);
            }
            if (chance(8)) {
                tell("cutByRounding", anyNode(), between(0, rows - 1), between(2, 5));
            }
            if (chance(8)) {
                tell("round", anyNode());
            }
            if (chance(4)) {
                tell("cutByCover", 0);
            }
        }
    }

    private void tellColumn(int cost, int low, int high, boolean isWhole) {
        int number = countColumns();
        if (number < 4) {
            hidden[number] = between(low, Math.max(low, high));
        }
        tell("addColumn", cost, low, high, isWhole);
    }

    private int countColumns() {
        int count = 0;
        while (!call("lower", count).startsWith("throws")) {
            count++;
        }
        return count;
    }

    private void tellColumns(int shape) {
        int cost = between(-9, 9);
        int low = between(-9, 2);
        int high = between(low, Math.min(9, low + between(1, 8)));
        for (int j = 0; j < columns; j++) {
            boolean isWhole = chance(shape == 2 ? 50 : 90);
            if (shape == 1 || shape == 5) {
                int price = shape == 5 && chance(70) ? cost : between(-9, 4);
                tellColumn(price, 0, 1, shape == 5 || isWhole);
            } else if (shape == 3) {
                tellColumn(chance(90) ? cost : between(-9, 9), low, high, true);
            } else if (shape == 4) {
                tellColumn(between(-3, 3), between(-9, -3), between(3, 9), true);
            } else {
                int a = between(-9, 9);
                tellColumn(between(-9, 9), a, between(a, 9), isWhole);
            }
        }
        if (shape == 0 && chance(30)) {
            tellColumn(between(-10, 10), between(-10, 10), between(-10, 10), chance(50));
            columns = countColumns();
        }
    }

    private void tellRow(int shape) {
        int[] co = new int[4];
        for (int j = 0; j < columns; j++) {
            co[j] = between(-5, 5);
        }
        if (shape == 3) {
            int same = between(-5, 5);
            for (int j = 0; j < columns; j++) {
                co[j] = chance(85) ? same : between(-5, 5);
            }
        }
        if (shape == 4) {
            tellEvenRow(co);
        } else if (shape == 1 || shape == 5) {
            tellKnapsack(co, shape);
        } else {
            tellHeldRow(co, anyOf("llge"));
        }
        if (chance(3)) {
            tell("addRow", anyOf("lgex"), between(-101, 101), co[0], between(-6, 6), co[2], between(-6, 6));
        }
    }

    private void tellHeldRow(int[] co, char sense) {
        int sum = 0;
        for (int j = 0; j < columns; j++) {
            sum += co[j] * hidden[j];
        }
        int spare = sense == 'l' ? between(0, 6) : sense == 'g' ? -between(0, 6) : 0;
        if (chance(6)) {
            spare = between(-9, 9);
        }
        int side = Math.max(-99, Math.min(99, sum + spare));
        tell("addRow", sense, side, co[0], co[1], co[2], co[3]);
    }

    /** Rows of even coefficients and odd sides have points, but none of whole numbers. */
    private void tellEvenRow(int[] co) {
        for (int j = 0; j < columns; j++) {
            co[j] = 2 * between(-2, 2);
        }
        if (chance(60)) {
            tell("addRow", 'e', 2 * between(-3, 3) + 1, co[0], co[1], co[2], co[3]);
        } else {
            tellHeldRow(co, anyOf("lg"));
        }
    }

    private void tellKnapsack(int[] co, int shape) {
        int same = between(1, 5);
        int sum = 0;
        for (int j = 0; j < columns; j++) {
            co[j] = shape == 5 && chance(60) ? same : between(0, 5);
            sum += co[j];
        }
        if (chance(25)) {
            for (int j = 0; j < columns; j++) {
                co[j] = 2 * between(0, 2);
            }
            tell("addRow", 'e', 2 * between(0, 3) + 1, co[0], co[1], co[2], co[3]);
            return;
        }
        int side = chance(5) ? between(-3, 20) : between(Math.min(1, sum), Math.max(1, sum - 1));
        if (chance(20)) {
            tell("addRow", 'g', -side, -co[0], -co[1], -co[2], -co[3]);
        } else {
            tell("addRow", anyOf("l"), side, co[0], co[1], co[2], co[3]);
        }
    }

    private char anyOf(String signs) {
        return chance(2) ? 'x' : signs.charAt(random.nextInt(signs.length()));
    }

    private int anyColumn() {
        return between(chance(5) ? -1 : 0, Math.max(0, columns - (chance(5) ? 0 : 1)));
    }

    private int anyNode() {
        int nodes = solver.nodes();
        return between(chance(5) ? -1 : 0, Math.max(0, nodes - (chance(5) ? 0 : 1)));
    }

    private int anyRow() {
        return between(chance(5) ? -1 : 0, chance(10) ? 8 : 4);
    }

    private void tellOne(int shape) {
        int what = between(0, 99);
        if (what < 38) {
            tell("solve", chance(75) ? between(1, 3) : between(0, 42));
        } else if (what < 50) {
            tell("cutByRounding", anyNode(), anyRow(), between(chance(5) ? 0 : 2, chance(5) ? 7 : 5));
        } else if (what < 60) {
            tell("cutByCover", anyRow());
        } else if (what < 68) {
            int column = anyColumn();
            tell("cutByLikeness", column, chance(70) ? column + 1 : anyColumn());
        } else if (what < 75) {
            tell("round", anyNode());
        } else if (what < 83) {
            tellOffer();
        } else if (what < 91) {
            tellLaterRow(shape);
        } else if (what < 94) {
            tell("begin", anyOf("bd"), anyOf("fhl"));
        } else if (what < 96) {
            tell("tighten");
        } else if (what < 97) {
            tell("addColumn", between(-9, 9), 0, 1, chance(50));
        } else {
            call("bestByAll");
        }
    }

    private void tellOffer() {
        Object[] values = new Object[4];
        for (int j = 0; j < 4; j++) {
            values[j] = random.nextInt();
            if (j < columns && !chance(2)) {
                int low = Integer.parseInt(call("lower", j));
                int high = Integer.parseInt(call("upper", j));
                values[j] = between(Math.min(low, high), high);
            }
        }
        tell("offer", values);
    }

    /** Mostly a row that leaves most points, so that trees stay as often as they are begun anew. */
    private void tellLaterRow(int shape) {
        if (chance(50)) {
            tellRow(shape);
            return;
        }
        int[] co = new int[4];
        for (int j = 0; j < columns; j++) {
            co[j] = chance(60) ? between(-2, 2) : 0;
        }
        tell("addRow", anyOf("lg"), chance(70) ? between(4, 30) : between(-5, 5), co[0], co[1], co[2], co[3]);
    }
}
