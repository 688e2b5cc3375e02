import java.lang.reflect.InvocationTargetException;
import java.lang.reflect.Method;
import java.util.ArrayList;
import java.util.Comparator;
import java.util.List;
import java.util.Random;

/**
 * Calls with arguments of all sorts: a call throws only what its face names, never what the machine throws, and a call
 * that throws changes nothing (but for INPUT, which an [INPUT] call empties). No object is asked more often than 512 times.
 */
public final class RoughTest {
    private static final int[] ENDS = {Integer.MIN_VALUE, -4097, -2001, -201, -101, -65, -2, -1, 0, 1, 2, 3, 7, 8, 15, 16, 23,
        24, 25, 30, 40, 64, 65, 100, 101, 200, 255, 256, 800, 1024, 1025, 2000, 4095, 4096, 8000, 8001, Integer.MAX_VALUE};

    public static void main(String[] args) throws IllegalAccessException {
        List<Method> calls = new ArrayList<>();
        for (Method method : PictureStudio.class.getDeclaredMethods()) {
            if (method.getName().length() > 0 && java.lang.reflect.Modifier.isPublic(method.getModifiers())) {
                calls.add(method);
            }
        }
        calls.sort(Comparator.comparing(Method::getName));
        for (int seed = 0; seed < 900; seed++) {
            run(seed, calls);
        }
        for (int seed = 0; seed < 60; seed++) {
            Check.due("a run of 512 calls", answers(new Random(seed), calls).size(), 512);
        }
        sameCallsSameAnswers(calls);
        Check.done("RoughTest");
    }

    private static Object[] arguments(Random r, Method call) {
        Class<?>[] types = call.getParameterTypes();
        Object[] all = new Object[types.length];
        int reach = r.nextInt(3) == 0 ? 256 : 5;
        for (int i = 0; i < all.length; i++) {
            int v = r.nextInt(12) == 0 ? ENDS[r.nextInt(ENDS.length)] : r.nextInt(reach);
            v = r.nextInt(20) == 0 ? -v : v;
            boolean colour = call.getName().equals("front") || call.getName().equals("feed");
            all[i] = types[i] == boolean.class ? (Object) r.nextBoolean() : (Object) (colour ? r.nextInt() : v);
        }
        return all;
    }

    private static final int STATE = 18;

    /** Much of what can be asked without a change, by so many calls; INPUT and faults are left out. */
    private static long state(PictureStudio s) {
        long all = s.hash();
        for (int what = 0; what < 10; what++) {
            all = 31 * all + (what == 8 ? 0 : s.count(what));
        }
        int w = s.count(0);
        int h = s.count(1);
        for (int k = 0; k < 4; k++) {
            all = 31 * all + s.selected(k * (w - 1) / 3, k * k * (h - 1) / 9);
        }
        return 31 * all + s.octets(-1);
    }

    private static boolean takesInput(Method call) {
        return call.getName().equals("text") || call.getName().equals("raw") || call.getName().equals("png");
    }

    private static void run(int seed, List<Method> calls) throws IllegalAccessException {
        Random r = new Random(seed);
        PictureStudio s = new PictureStudio();
        for (int i = 0; i < 6; i++) {
            s.layer(r.nextInt(6), -1, 0);
        }
        long before = state(s);
        for (int asked = 6 + STATE; asked + STATE + 3 <= 512; asked += STATE + 3) {
            Method call = calls.get(r.nextInt(calls.size()));
            Object[] with = arguments(r, call);
            int input = s.count(8);
            Throwable thrown = null;
            try {
                call.invoke(s, with);
            } catch (InvocationTargetException e) {
                thrown = e.getCause();
            }
            int left = s.count(8);
            long behind = state(s);
            String what = "seed " + seed + ", call " + asked + ", " + call.getName() + java.util.Arrays.toString(with);
            if (thrown != null) {
                Check.due(what + " threw " + thrown, List.of(call.getExceptionTypes()).contains(thrown.getClass()) ? 1 : 0, 1);
                Check.due(what + " threw and changed something", behind, before);
            }
            if (takesInput(call)) {
                Check.due(what + " empties INPUT", left, 0);
            } else if (thrown != null) {
                Check.due(what + " threw and changed INPUT", left, input);
            }
            before = behind;
        }
    }

    private static Method named(List<Method> calls, String name) {
        for (Method call : calls) {
            if (call.getName().equals(name)) {
                return call;
            }
        }
        throw new IllegalStateException(name);
    }

    private static List<Object> answers(Random r, List<Method> calls) throws IllegalAccessException {
        PictureStudio s = new PictureStudio();
        List<Object> all = new ArrayList<>();
        for (int i = 0; i < 512; i++) {
            Method call = i < 12 ? named(calls, "layer") : calls.get(r.nextInt(calls.size()));
            Object[] with = arguments(r, call);
            try {
                all.add(String.valueOf(call.invoke(s, with)));
            } catch (InvocationTargetException e) {
                all.add(e.getCause().getClass());
                Check.due(call.getName() + java.util.Arrays.toString(with) + " threw " + e.getCause(),
                    List.of(call.getExceptionTypes()).contains(e.getCause().getClass()) ? 1 : 0, 1);
            }
        }
        return all;
    }

    /** Objects know nothing of one another. */
    private static void sameCallsSameAnswers(List<Method> calls) throws IllegalAccessException {
        List<Object> first = answers(new Random(99), calls);
        answers(new Random(100), calls);
        Check.due("the same calls give the same answers", first.equals(answers(new Random(99), calls)) ? 1 : 0, 1);
    }
}
