import java.lang.management.ManagementFactory;
import java.lang.reflect.InvocationTargetException;
import java.lang.reflect.Method;
import java.util.ArrayList;
import java.util.Comparator;
import java.util.List;
import java.util.Random;

/** No call throws, whatever it is given; and what 512 calls make stays small. */
public final class SafetyTest {
    private static final int[] EDGES = {Integer.MIN_VALUE, Integer.MIN_VALUE + 1, Integer.MAX_VALUE,
        Integer.MAX_VALUE - 1, -1, -2, 0, 1, 2, 3, 5, 6, 15, 16, 19, 20, 23, 24, 40, 41, 95, 96, 99, 100, 400, 401,
        1000, 1001, 5000, 5001, 9999, 10000, 20000, 20001, 100000, 1000000, -1000000, 1000001, 2000000};

    private static List<Method> face() {
        List<Method> face = new ArrayList<>();
        for (Method m : TunnelBook.class.getDeclaredMethods()) {
            if (java.lang.reflect.Modifier.isPublic(m.getModifiers())) {
                face.add(m);
            }
        }
        face.sort(Comparator.comparing(Method::getName));
        return face;
    }

    private static Object argument(Class<?> type, Random random, boolean wild) {
        if (type == boolean.class) {
            return random.nextBoolean();
        }
        if (random.nextInt(wild ? 2 : 12) == 0) {
            return EDGES[random.nextInt(EDGES.length)];
        }
        return new int[] {random.nextInt(3), random.nextInt(20), random.nextInt(1000)}[random.nextInt(3)];
    }

    private static void wildRun(long seed, List<Method> face) throws IllegalAccessException {
        Random random = new Random(seed);
        TunnelBook book = new TunnelBook();
        for (int i = 0; i < 512; i++) {
            Method m = face.get(random.nextInt(face.size()));
            Object[] args = new Object[m.getParameterCount()];
            for (int a = 0; a < args.length; a++) {
                args[a] = argument(m.getParameterTypes()[a], random, seed % 2 == 0);
            }
            try {
                m.invoke(book, args);
            } catch (InvocationTargetException e) {
                System.out.println("seed " + seed + ": " + m.getName() + java.util.Arrays.toString(args) + " threw");
                e.getCause().printStackTrace(System.out);
                System.exit(1);
            }
            if (random.nextInt(8) == 0) {
                Texts.way(book, random.nextInt(6), Texts.made(random));
            }
        }
    }

    private static String deepText() {
        StringBuilder text = new StringBuilder("def a{repeat 9{poles;shaft;}}");
        for (char letter = 'b'; letter <= 'h'; letter++) {
            text.append("def ").append(letter).append("{repeat 2{do ").append((char) (letter - 1)).append(";}}");
        }
        return text.append("repeat 2{do h;line 1;}").toString();
    }

    private static void dearRun(TunnelBook book) {
        int[] deep = Texts.packed(deepText());
        for (int i = 0; i < 20; i++) {
            book.station();
            book.sight(i % 3, i, i + 1, 0, 9);
            book.reach(i % 2, 1000, 2000, 1, 10, 900, i);
        }
        for (int w = 0; w < 6; w++) {
            for (int i = 0; i < deep.length; i += 5) {
                book.feed(deep[i], deep[i + 1], deep[i + 2], deep[i + 3], deep[i + 4]);
            }
            book.way(w);
        }
        for (int i = 0; i < 40; i++) {
            book.tools(5, 3, 10, 50, i);
            book.ways(i % 16, 0, 1, 2, 0);
            book.chance(12, 0, true);
            book.detour(40, 0, true);
            book.flow(0, 10, 10, true);
            book.blamed(0, 0, 0);
            book.when(0, 0, true);
        }
    }

    private static boolean staysSmall() {
        com.sun.management.ThreadMXBean bean =
            (com.sun.management.ThreadMXBean) ManagementFactory.getThreadMXBean();
        dearRun(new TunnelBook());
        long id = Thread.currentThread().getId();
        long before = bean.getThreadAllocatedBytes(id);
        dearRun(new TunnelBook());
        long made = bean.getThreadAllocatedBytes(id) - before;
        System.out.println("SafetyTest: a dear run makes " + made + " bytes");
        return made < 200000;
    }

    public static void main(String[] args) throws IllegalAccessException {
        List<Method> face = face();
        for (long seed = 0; seed < 600; seed++) {
            wildRun(seed, face);
        }
        if (!staysSmall()) {
            System.out.println("SafetyTest: that's too much");
            System.exit(1);
        }
        System.out.println("SafetyTest: nothing threw");
    }
}
