import java.lang.reflect.InvocationTargetException;
import java.lang.reflect.Method;
import java.util.Arrays;
import java.util.HashMap;
import java.util.Map;
import java.util.Random;

/** All promises together: long runs by chance, the same each time, against the model. */
public final class ChanceTest {
    private static final int RUNS = 250;
    private static final int CALLS = 512;
    private static final int[] SIZES = {0, 1, 8, 27, 28, 55, 56, 63, 64, 65, 111, 112, 127, 128, 129, 300};
    private static final Map<String, Method> REAL = methods(DigestStack.class);
    private static final Map<String, Method> MODELLED = methods(Model.class);

    private final Random chance;
    private final int run;
    private final DigestStack real = new DigestStack();
    private final Model model = new Model();
    private int calls;
    private int wrong;

    private ChanceTest(int run) {
        this.run = run;
        chance = new Random(run);
    }

    public static void main(String[] args) {
        int wrong = 0;
        for (int run = 0; run < RUNS; run++) {
            wrong += new ChanceTest(run).wrongAnswers();
        }
        System.out.println(wrong == 0 ? "all answers are as due" : wrong + " runs are not as due");
        if (wrong != 0) {
            System.exit(1);
        }
    }

    /** Ends at the first wrong answer: what comes behind it tells nothing. */
    private int wrongAnswers() {
        while (calls < CALLS && wrong == 0) {
            step(chance.nextInt(24));
        }
        return wrong;
    }

    private void step(int choice) {
        switch (choice) {
            case 0, 1 -> call("begin", stream(), kind());
            case 2 -> call("code", stream(), kind());
            case 3, 4 -> call("update", stream());
            case 5, 6 -> call("repeat", stream(), chance.nextInt(), times());
            case 7 -> call("finish", stream());
            case 8 -> call("copy", stream(), stream());
            case 9 -> call("about", stream(), chance.nextInt(6) - 1);
            case 10 -> call("hold", chance.nextInt(5) - 1);
            case 11 -> call("keep", chance.nextInt(5) - 1);
            case 12 -> call("draw", kind());
            case 13 -> call("spread", kind(), spreadSize());
            case 14 -> call("stretch", kind(), turns(), chance.nextInt(20) == 0 ? 401 : chance.nextInt(402) - 1);
            case 15, 16 -> call("outs", index());
            case 17 -> call("out", index());
            case 18 -> call("constant", chance.nextInt(84) - 2);
            case 19 -> echo();
            case 20 -> askAll();
            default -> feedSome(SIZES[chance.nextInt(SIZES.length)]);
        }
    }

    private void feedSome(int size) {
        for (int fed = 0; fed < size && calls < CALLS; fed += 8) {
            call("feed", chance.nextInt(30) == 0 ? chance.nextInt(12) - 2 : Math.min(8, size - fed),
                    chance.nextLong());
        }
    }

    private void echo() {
        call("isOut");
        byte[] row = model.outRow();
        for (int i = 0; i < row.length && i < 600; i += 8) {
            int n = Math.min(8, row.length - i);
            call("feed", n, Reference.lowestFirst(row, i, n));
        }
        call("isOut");
    }

    private void askAll() {
        for (int stream = 0; stream < 4; stream++) {
            for (int what = 0; what < 4; what++) {
                call("about", stream, what);
            }
        }
    }

    private int stream() {
        return chance.nextInt(25) == 0 ? odd(4) : chance.nextInt(4);
    }

    private int kind() {
        return chance.nextInt(25) == 0 ? odd(4) : chance.nextInt(4);
    }

    private int times() {
        int choice = chance.nextInt(20);
        return choice == 0 ? odd(20001) : choice == 1 ? 20000 - chance.nextInt(300)
                : choice < 8 ? SIZES[chance.nextInt(SIZES.length)] : chance.nextInt(300);
    }

    private int spreadSize() {
        int choice = chance.nextInt(10);
        return choice == 0 ? odd(16321) : choice == 1 ? chance.nextInt(16321)
                : choice == 2 ? 255 * Reference.DIGESTS[chance.nextInt(4)] + chance.nextInt(3) - 1
                : chance.nextInt(600);
    }

    private int turns() {
        int choice = chance.nextInt(30);
        return choice == 0 ? odd(501) : choice == 1 ? 0 : choice == 2 ? 500 : 1 + chance.nextInt(12);
    }

    private int index() {
        int size = model.outRow().length;
        int choice = chance.nextInt(12);
        return choice == 0 ? odd(size) : choice < 4 ? size - 9 + chance.nextInt(12)
                : choice < 6 ? chance.nextInt(12) - 10 : chance.nextInt(size + 1);
    }

    private int odd(int bound) {
        int[] choices = {-1, bound, bound + 1, Integer.MIN_VALUE, Integer.MAX_VALUE, Integer.MAX_VALUE - 3};
        return choices[chance.nextInt(choices.length)];
    }

    private void call(String name, Object... arguments) {
        if (calls >= CALLS || wrong > 0) {
            return;
        }
        calls++;
        String got = told(REAL.get(name), real, arguments);
        String want = told(MODELLED.get(name), model, arguments);
        if (!got.equals(want)) {
            wrong = 1;
            System.out.println("run " + run + ", call " + calls + ": " + name
                    + Arrays.toString(arguments) + " answered " + got + ", due is " + want);
        }
    }

    private static String told(Method method, Object on, Object[] arguments) {
        try {
            return String.valueOf(method.invoke(on, arguments));
        } catch (InvocationTargetException e) {
            return "throws." + e.getCause().getClass().getSimpleName();
        } catch (IllegalAccessException e) {
            throw new IllegalStateException(e);
        }
    }

    private static Map<String, Method> methods(Class<?> owner) {
        Map<String, Method> all = new HashMap<>();
        for (Method method : owner.getDeclaredMethods()) {
            all.put(method.getName(), method);
        }
        return all;
    }
}
