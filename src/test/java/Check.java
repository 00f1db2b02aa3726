import java.lang.reflect.InvocationTargetException;
import java.lang.reflect.Method;
import java.lang.reflect.Modifier;
import java.util.Arrays;
import java.util.Comparator;

/** What the tests share: a runner, comparisons, and ways to look at a LineDoubler. */
final class Check {
    private static int wrong = 0;

    private Check() {
    }

    /** Runs every static method of a test class that has no arguments; ends with exit code 1 if one found a fault. */
    static void run(Class<?> tests) throws Exception {
        Method[] methods = tests.getDeclaredMethods();
        Arrays.sort(methods, Comparator.comparing(Method::getName));
        int ran = 0;
        int failed = 0;
        for (Method method : methods) {
            if (Modifier.isStatic(method.getModifiers()) && !Modifier.isPrivate(method.getModifiers())
                    && method.getParameterCount() == 0) {
                int before = wrong;
                try {
                    method.setAccessible(true);
                    method.invoke(null);
                } catch (InvocationTargetException thrown) {
                    wrong++;
                    thrown.getCause().printStackTrace(System.out);
                }
                ran++;
                if (wrong != before) {
                    failed++;
                    System.out.println("failed: " + tests.getName() + "." + method.getName());
                }
            }
        }
        System.out.println("  " + tests.getName() + ": " + ran + " tests ran, " + failed + " of them failed");
        if (ran == 0 || failed > 0) {
            System.exit(1);
        }
    }

    static void due(String call, long got, long want) {
        if (got != want) {
            wrong++;
            System.out.println(call + " answered " + got + ", due is " + want);
        }
    }

    static void same(String what, String got, String want) {
        if (!got.equals(want)) {
            wrong++;
            System.out.println(what + " is\n  " + got + ", due is\n  " + want);
        }
    }

    static void fail(String why) {
        wrong++;
        System.out.println(why);
    }

    static boolean failed() {
        return wrong > 0;
    }

    /** The number that gives the characters of a text, of which there are 8 at most, to put(). */
    static long packed(String text) {
        long characters = 0;
        for (int i = 0; i < text.length(); i++) {
            characters = characters << 8 | text.charAt(i);
        }
        return characters;
    }

    /** Puts a text of any length onto the pad and answers what the last put() did. */
    static int type(LineDoubler x, String text) {
        int answer = 0;
        for (int from = 0; from < text.length(); from += 8) {
            answer = x.put(packed(text.substring(from, Math.min(text.length(), from + 8))));
        }
        return answer;
    }

    /** The fault of a text. */
    static int faultOf(String text) {
        LineDoubler x = new LineDoubler();
        type(x, text);
        return x.fault();
    }

    /** What count() tells, but for the pad and the history. */
    static String counts(LineDoubler x) {
        StringBuilder counts = new StringBuilder("counts");
        for (int what = 0; what < 24; what++) {
            counts.append(' ').append(x.count(what));
        }
        return counts.toString();
    }

    /** All that can be seen without a change, but for the pad and the history: some 250 calls at most. */
    static String seen(LineDoubler x) {
        StringBuilder seen = new StringBuilder(counts(x));
        seen.append(" waiting");
        for (int place = 0; x.waiting(place, 0) != LineDoubler.NO_SUCH; place++) {
            for (int what = 0; what < 4; what++) {
                seen.append(' ').append(x.waiting(place, what));
            }
        }
        seen.append(" rows");
        for (int row = 0; row < 2 * x.count(16 + LineDoubler.HEIGHT); row++) {
            for (int what = 0; what < 3; what++) {
                seen.append(' ').append(x.row(row, what));
            }
        }
        seen.append(" missing");
        for (int missing = 0; x.ofMissing(missing, 0) != LineDoubler.NO_SUCH; missing++) {
            for (int what = 0; what < 4; what++) {
                seen.append(' ').append(x.ofMissing(missing, what));
            }
        }
        seen.append(" shown ").append(x.shown()).append(" ratio ").append(x.ratio());
        return seen.append(" fill ").append(x.fill()).toString();
    }

    /** All that can be seen without a change. */
    static String all(LineDoubler x) {
        return seen(x) + " pad " + x.count(24) + " fault " + x.fault() + " undoable " + x.count(25);
    }

    /** The values of the 16 lines; the object is as before, but for its history. */
    static String values(LineDoubler x) {
        StringBuilder values = new StringBuilder();
        for (int line = 0; line < 16; line++) {
            values.append(x.value(line, 0)).append(' ');
            x.undo();
        }
        return values.toString();
    }
}
