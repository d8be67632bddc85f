import java.lang.reflect.InvocationTargetException;
import java.lang.reflect.Method;
import java.lang.reflect.Modifier;
import java.util.ArrayList;
import java.util.Arrays;
import java.util.Comparator;
import java.util.List;
import java.util.Random;

/** Any calls with any arguments in any state: only the exceptions of the face ever reach the caller. */
public final class WildCallsTest {
    private static final int OBJECTS = 400;
    private static final int CALLS = 600;
    private static final int[] FAR = {Integer.MIN_VALUE, Integer.MAX_VALUE, -100, 100, 41, 42, 16, 512};

    public static void main(String[] args) throws IllegalAccessException {
        List<Method> face = new ArrayList<>();
        for (Method m : BranchQuarry.class.getDeclaredMethods()) {
            if (Modifier.isPublic(m.getModifiers())) {
                face.add(m);
            }
        }
        face.sort(Comparator.comparing(Method::getName));
        int wrong = 0;
        for (int k = 0; k < OBJECTS && wrong < 5; k++) {
            wrong += run(new Random(k), face);
        }
        System.out.println(wrong == 0 ? "WildCallsTest: no other exceptions" : "WildCallsTest: " + wrong + " failed");
        if (wrong != 0) {
            System.exit(1);
        }
    }

    private static int run(Random random, List<Method> face) throws IllegalAccessException {
        BranchQuarry q = new BranchQuarry();
        int columns = random.nextInt(5);
        for (int j = 0; j < columns; j++) {
            int lower = random.nextInt(19) - 9;
            q.addColumn(random.nextInt(19) - 9, lower, lower + random.nextInt(10 - lower), random.nextInt(4) > 0);
        }
        for (int k = 0; k < CALLS; k++) {
            Method m = face.get(random.nextInt(face.size()));
            if (m.getName().equals("addColumn") && random.nextInt(4) > 0) {
                continue;
            }
            Object[] args = new Object[m.getParameterCount()];
            for (int p = 0; p < args.length; p++) {
                args[p] = any(random, m.getParameterTypes()[p]);
            }
            try {
                m.invoke(q, args);
            } catch (InvocationTargetException e) {
                Class<?> got = e.getCause().getClass();
                if (!Arrays.asList(m.getExceptionTypes()).contains(got)) {
                    System.out.println(m.getName() + Arrays.toString(args) + " throws " + got.getName());
                    return 1;
                }
            }
        }
        return 0;
    }

    private static Object any(Random random, Class<?> type) {
        if (type == boolean.class) {
            return random.nextBoolean();
        }
        if (type == char.class) {
            return random.nextInt(20) == 0 ? (char) random.nextInt(65536) : "lgebdfhl".charAt(random.nextInt(8));
        }
        return random.nextInt(12) == 0 ? FAR[random.nextInt(FAR.length)] : random.nextInt(9) - 3;
    }
}
