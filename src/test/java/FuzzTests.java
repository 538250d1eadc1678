import java.lang.reflect.Method;
import java.lang.reflect.Modifier;
import java.util.ArrayList;
import java.util.Arrays;
import java.util.Comparator;
import java.util.List;
import java.util.Random;

/** Every call with any arguments in any state: none throws, and one that fails changes nothing but STATUS. */
public final class FuzzTests {
    private static final int[] EDGES = {Integer.MIN_VALUE, Integer.MIN_VALUE + 1, -100, -2, -1, 0, 1, 2, 3, 4, 5, 6, 9, 10, 16, 17,
        20, 59, 60, 61, 100, 300, 301, 900, 901, 9999, 10000, Integer.MAX_VALUE - 1, Integer.MAX_VALUE};
    private static final String[] TABLES = {
        "kinds 4 each 4;player a lies 8 doubts 1;player b doubts 2;player c lies 16;hand a 3 of 0;hand a 1 of 3;hand b 2 of 1;hand b 1 of 2;hand c 2 of 1;hand c 1 of 0;",
        "kinds 10 each 8;most 1;law down;player a;player b;player c;player d;player e;player f;hand a 8 of 9;hand b 8 of 8;hand c 8 of 1;hand f 8 of 0;hand d 3 of 2;hand e 3 of 3;",
        "kinds 2 each 2;law same;player a;hand a 2 of 1;",
        "kinds 3 each 1;"};
    private static final String[] ROUNDS = {"loop 99;turn;when won;stop;end;end;", "loop 99;loop 99;turn;turn;end;end;",
        "loop 3;turn;doubts a 3;end;", ""};

    private final Random random;
    private final List<Method> methods = new ArrayList<>();

    private FuzzTests(int seed) {
        random = new Random(seed);
        for (Method m : CheatHeap.class.getDeclaredMethods()) {
            if (Modifier.isPublic(m.getModifiers())) {
                methods.add(m);
            }
        }
        methods.sort(Comparator.comparing(Method::toString));
    }

    public static void main(String[] args) throws ReflectiveOperationException {
        for (int seed = 0; seed < 120; seed++) {
            new FuzzTests(seed).run();
        }
        Checks.finish("FuzzTests");
    }

    private void run() throws ReflectiveOperationException {
        Checks.due("so many public methods", methods.size(), 54);
        CheatHeap x = new CheatHeap();
        for (int i = 0; i < 512; i++) {
            if (random.nextInt(40) == 0) {
                Checks.table(x, TABLES[random.nextInt(TABLES.length)]);
            } else if (random.nextInt(40) == 0) {
                Checks.round(x, ROUNDS[random.nextInt(ROUNDS.length)]);
            } else if (random.nextInt(4) == 0) {
                x.lay(random.nextInt(4), random.nextInt(3) - 1, -1, -1);
            } else if (random.nextInt(6) == 0) {
                x.leave();
            } else {
                call(x);
            }
        }
    }

    private int number() {
        return random.nextInt(3) == 0 ? EDGES[random.nextInt(EDGES.length)] : random.nextInt(5) - 1;
    }

    private void call(CheatHeap x) throws ReflectiveOperationException {
        Method m = methods.get(random.nextInt(methods.size()));
        Object[] args = new Object[m.getParameterCount()];
        for (int i = 0; i < args.length; i++) {
            if (m.getParameterTypes()[i] == long.class) {
                args[i] = random.nextLong();
            } else {
                args[i] = number();
            }
        }
        long[] before = random.nextInt(3) == 0 ? Checks.look(x) : null;
        String what = m.getName() + Arrays.toString(args);
        Object got = m.invoke(x, args);
        boolean hasStatus = !List.of("status", "top", "bottom", "fault", "feed").contains(m.getName());
        int status = x.status();
        Checks.due("a status " + what, status >= 0 && status <= 11, true);
        if (hasStatus && status != 0) {
            Checks.due("NONE or false of " + what, got instanceof Boolean b ? b : ((Number) got).longValue() != -1, false);
        }
        if (before != null && hasStatus && status != 0 && status != 10) {
            Checks.due("nothing changed by " + what, Arrays.equals(before, Checks.look(x)), true);
        }
    }
}
