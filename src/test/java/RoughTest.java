import java.lang.reflect.InvocationTargetException;
import java.lang.reflect.Method;
import java.util.ArrayList;
import java.util.Comparator;
import java.util.List;
import java.util.Random;

/**
 * Calls with arguments of all sorts, in runs of 512: a call throws only what its face names, never what the machine
 * throws, and a call that throws changes nothing (but for INPUT, which an [INPUT] call empties).
 */
public final class RoughTest {
    private static final int[] ENDS = {Integer.MIN_VALUE, -4097, -2001, -201, -101, -65, -2, -1, 0, 1, 2, 3, 7, 8, 15, 16, 23,
        24, 25, 30, 40, 64, 65, 100, 101, 200, 255, 256, 800, 1024, 1025, 2000, 4095, 4096, 8000, 8001, Integer.MAX_VALUE};

    public static void main(String[] args) throws IllegalAccessException {
        List<Method> calls = new ArrayList<>();
        for (Method method : PictureStudio.class.getDeclaredMethods()) {
            if (method.getName().length() > 0 && java.lang.reflect.Modifier.isPublic(method.getModifiers())) {
                calls.add(method);
            }
        }
        calls.sort(Comparator.comparing(Method::getName));
        for (int seed = 0; seed < 60; seed++) {
            run(seed, calls);
        }
        sameCallsSameAnswers(calls);
        Check.done("RoughTest");
    }

    private static Object[] arguments(Random r, Method call) {
        Class<?>[] types = call.getParameterTypes();
        Object[] all = new Object[types.length];
        int reach = r.nextInt(3) == 0 ? 256 : 5;
        for (int i = 0; i < all.length; i++) {
            int v = r.nextInt(12) == 0 ? ENDS[r.nextInt(ENDS.length)] : r.nextInt(reach);
            v = r.nextInt(20) == 0 ? -v : v;
            boolean colour = call.getName().equals("front") || call.getName().equals("feed");
            all[i] = types[i] == boolean.class ? (Object) r.nextBoolean() : (Object) (colour ? r.nextInt() : v);
        }
        return all;
    }

    /** All that can be asked without a change, but for INPUT and faults. */
    private static long state(PictureStudio s) {
        long all = s.hash();
        for (int what = 0; what < 10; what++) {
            all = 31 * all + (what == 8 ? 0 : s.count(what));
        }
        for (int y = 0; y < s.count(1); y++) {
            for (int x = 0; x < s.count(0); x++) {
                all = 31 * all + s.selected(x, y);
            }
        }
        return 31 * all + s.octets(-1);
    }

    private static boolean takesInput(Method call) {
        return call.getName().equals("text") || call.getName().equals("raw") || call.getName().equals("png");
    }

    private static void run(int seed, List<Method> calls) throws IllegalAccessException {
        Random r = new Random(seed);
        PictureStudio s = new PictureStudio();
        long before = state(s);
        for (int i = 0; i < 512; i++) {
            Method call = i < 12 || r.nextInt(8) == 0 ? named(calls, "layer") : calls.get(r.nextInt(calls.size()));
            Object[] with = arguments(r, call);
            if (call.getName().equals("open") && r.nextInt(4) > 0) {
                continue;
            }
            int input = s.count(8);
            Throwable thrown = null;
            try {
                call.invoke(s, with);
            } catch (InvocationTargetException e) {
                thrown = e.getCause();
            }
            long behind = state(s);
            String what = "seed " + seed + ", call " + i + ", " + call.getName() + java.util.Arrays.toString(with);
            if (thrown != null) {
                Check.due(what + " threw " + thrown, List.of(call.getExceptionTypes()).contains(thrown.getClass()) ? 1 : 0, 1);
                Check.due(what + " threw and changed something", behind, before);
            }
            if (takesInput(call)) {
                Check.due(what + " empties INPUT", s.count(8), 0);
            } else if (thrown != null) {
                Check.due(what + " threw and changed INPUT", s.count(8), input);
            }
            before = behind;
        }
    }

    private static Method named(List<Method> calls, String name) {
        for (Method call : calls) {
            if (call.getName().equals(name)) {
                return call;
            }
        }
        throw new IllegalStateException(name);
    }

    private static List<Object> answers(Random r, List<Method> calls) throws IllegalAccessException {
        PictureStudio s = new PictureStudio();
        List<Object> all = new ArrayList<>();
        for (int i = 0; i < 512; i++) {
            Method call = i < 12 ? named(calls, "layer") : calls.get(r.nextInt(calls.size()));
            Object[] with = arguments(r, call);
            try {
                all.add(call.invoke(s, with));
            } catch (InvocationTargetException e) {
                all.add(e.getCause().getClass());
            }
        }
        return all;
    }

    /** Objects know nothing of one another. */
    private static void sameCallsSameAnswers(List<Method> calls) throws IllegalAccessException {
        List<Object> first = answers(new Random(99), calls);
        answers(new Random(100), calls);
        Check.due("the same calls give the same answers", first.equals(answers(new Random(99), calls)) ? 1 : 0, 1);
    }
}
