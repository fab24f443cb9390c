import java.lang.reflect.InvocationTargetException;
import java.lang.reflect.Method;
import java.lang.reflect.Modifier;
import java.util.ArrayList;
import java.util.Comparator;
import java.util.List;
import java.util.Random;
import java.util.Set;

/**
 * Calls of the whole face with numbers of all sizes, in all states: nothing is thrown but by element(),
 * a refusal changes nothing, and what is only thought of changes nothing.
 */
public final class WildCalls {
    private static final Set<String> CHANGING = Set.of("text", "comes", "sends", "drops", "ticks", "image", "restore",
        "tray", "lays", "like", "keep", "row", "put", "copy");
    private static final int[] FAR_OFF = {Integer.MIN_VALUE, Integer.MIN_VALUE + 1, -65536, -1000, -129, -128, -61, -17,
        -5, -4, -3, -2, -1, 0, 1, 2, 3, 4, 5, 6, 7, 8, 9, 10, 12, 15, 19, 20, 21, 29, 30, 31, 59, 60, 61, 98, 99, 100,
        101, 127, 128, 255, 256, 9999, 10000, 32767, 65536, Integer.MAX_VALUE - 1, Integer.MAX_VALUE};
    private static int wrong = 0;

    private static void tell(String what) {
        wrong++;
        if (wrong < 20) {
            System.out.println(what);
        }
    }

    /** All that can be seen of an object without changing it. */
    private static String seen(GreedyServers x) {
        StringBuilder all = new StringBuilder();
        for (int what = 0; what < 9; what++) {
            all.append(x.count(what)).append(' ');
        }
        for (int s = 0; s < x.count(0); s++) {
            for (int what = 0; what < 12; what++) {
                all.append(x.server(s, what)).append(' ');
            }
            for (int i = 0; i < 4; i++) {
                for (int what = 0; what < 4; what++) {
                    all.append(x.job(s, i, what)).append(' ');
                }
            }
        }
        for (int d = 0; d < 8; d++) {
            all.append('|').append(x.cost(d)).append(' ').append(x.toss(d)).append(' ');
            for (int i = 0; x.put(d, i, (int) valueAt(x, d, i)) == 0; i++) {
                all.append(valueAt(x, d, i)).append(' ');
            }
        }
        for (int t = 0; t < 4; t++) {
            for (int i = 0; i < 21; i++) {
                all.append(x.laid(t, i)).append(' ');
            }
        }
        return all.toString();
    }

    private static long valueAt(GreedyServers x, int d, int i) {
        try {
            return x.element(d, i);
        } catch (IllegalStateException e) {
            return 0;
        }
    }

    private static int number(Random lots) {
        int r = lots.nextInt(10);
        return r < 5 ? lots.nextInt(6) : r < 7 ? lots.nextInt(61) : r < 9 ? FAR_OFF[lots.nextInt(FAR_OFF.length)]
            : lots.nextInt();
    }

    private static boolean isRefusal(long answer) {
        return answer < 0;
    }

    private static void call(GreedyServers x, Method m, Random lots, String before) {
        Object[] numbers = new Object[m.getParameterCount()];
        StringBuilder told = new StringBuilder(m.getName());
        for (int i = 0; i < numbers.length; i++) {
            numbers[i] = number(lots);
            told.append(' ').append(numbers[i]);
        }
        try {
            long answer = ((Number) m.invoke(x, numbers)).longValue();
            boolean stays = !CHANGING.contains(m.getName()) || isRefusal(answer);
            if (stays && !seen(x).equals(before)) {
                tell(told + " answered " + answer + " and changed what there is");
            }
        } catch (InvocationTargetException e) {
            Throwable cause = e.getCause();
            boolean allowed = m.getName().equals("element") && (cause.getClass() == IllegalStateException.class
                || cause.getClass() == IllegalArgumentException.class);
            if (!allowed) {
                tell(told + " threw " + cause);
            }
        } catch (IllegalAccessException e) {
            tell(told + " is not to be called");
        }
    }

    public static void main(String[] args) {
        List<Method> face = new ArrayList<>();
        for (Method m : GreedyServers.class.getDeclaredMethods()) {
            if (Modifier.isPublic(m.getModifiers())) {
                face.add(m);
            }
        }
        face.sort(Comparator.comparing(Method::getName));
        for (int seed = 0; seed < 400 && wrong == 0; seed++) {
            Random lots = new Random(seed);
            GreedyServers x = new GreedyServers();
            for (int s = 0; s < lots.nextInt(7); s++) {
                x.keep(s, 1, lots.nextInt(6), lots.nextInt(10));
                x.comes(s, 1 + lots.nextInt(4), new int[] {4, 5, 6, 10, 12, 60}[lots.nextInt(6)]);
            }
            for (int i = 0; i < 500 && wrong == 0; i++) {
                call(x, face.get(lots.nextInt(face.size())), lots, seen(x));
            }
        }
        System.out.println(wrong == 0 ? "wild calls throw nothing and refusals change nothing" : wrong + " wrong");
        if (wrong != 0) {
            System.exit(1);
        }
    }
}
