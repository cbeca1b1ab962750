import java.lang.reflect.InvocationTargetException;
import java.lang.reflect.Method;
import java.lang.reflect.Modifier;
import java.util.ArrayList;
import java.util.Comparator;
import java.util.List;
import java.util.Random;

/** No call throws, whatever its arguments and whatever came ahead of it; and the same calls give the same answers. */
public final class WildTest {
    private static final int OBJECTS = 2000, CALLS = 512;
    private static final int[] EDGES = {Integer.MIN_VALUE, Integer.MIN_VALUE + 1, -2000000000, -10000, -1000, -999, -100, -2, -1,
        0, 1, 2, 3, 4, 5, 6, 7, 9, 10, 11, 12, 13, 20, 21, 22, 24, 59, 60, 61, 85, 99, 100, 101, 102, 105, 110, 111, 112,
        120, 140, 199, 200, 201, 255, 256, 300, 999, 1000, 1920, 9999, 10000, Integer.MAX_VALUE - 1, Integer.MAX_VALUE};
    private static final String[] TEXTS = {"?(0:30,5:!a(80,-20))", "A=!a(1,2);?(1:A,2:?(3:A,4:5),6:!b(1,2))", "7",
        "!a(?(1:2,3:4),!b(?(9:9,8:8),1))", "?(0:!a(10,0,5),0:!b(10,0,6),1:!c(1,2),2:!d(3,4))", "?(1:2", "A=1;B=A;B",
        "!a(?(1:!b(5,6),2:!b(7,8)),!c(!d(1,2),!d(3,4)))", "!a(1,2,?(3:4,5:6))"};

    public static void main(String[] args) throws Exception {
        List<Method> methods = new ArrayList<>();
        for (Method method : SueOrSettle.class.getDeclaredMethods()) {
            if (Modifier.isPublic(method.getModifiers())) {
                methods.add(method);
            }
        }
        methods.sort(Comparator.comparing(Method::getName));
        for (int seed = 0; seed < OBJECTS; seed++) {
            long first = answers(methods, seed);
            if (seed % 8 == 0 && first != answers(methods, seed)) {
                System.out.println("object " + seed + " answered otherwise the second time");
                System.exit(1);
            }
        }
        System.out.println("no call threw");
    }

    private static long answers(List<Method> methods, int seed) throws Exception {
        Random random = new Random(seed);
        SueOrSettle x = new SueOrSettle();
        for (int i = random.nextInt(5); i > 0; i--) {
            int thing = x.thing(2 + random.nextInt(2));
            x.hang(thing, thing - 1 - random.nextInt(3));
        }
        long sum = 0;
        for (int i = 0; i < CALLS; i++) {
            if (random.nextInt(40) == 0) {
                for (char sign : TEXTS[random.nextInt(TEXTS.length)].toCharArray()) {
                    x.feed(1, sign);
                }
                sum = 31 * sum + x.quarrel();
            }
            Method method = methods.get(random.nextInt(methods.size()));
            Object[] given = new Object[method.getParameterCount()];
            for (int k = 0; k < given.length; k++) {
                int v = random.nextInt(3) == 0 ? EDGES[random.nextInt(EDGES.length)] : random.nextInt(4);
                given[k] = method.getParameterTypes()[k] == long.class ? (Object) (v * 4294967297L) : (Object) v;
            }
            try {
                sum = 31 * sum + ((Number) method.invoke(x, given)).longValue();
            } catch (InvocationTargetException thrown) {
                System.out.println("object " + seed + ": " + method.getName() + java.util.Arrays.toString(given)
                        + " threw " + thrown.getCause());
                System.exit(1);
            }
        }
        return sum;
    }
}
