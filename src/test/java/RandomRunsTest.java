import java.lang.reflect.InvocationTargetException;
import java.lang.reflect.Method;
import java.util.Arrays;
import java.util.TreeMap;

/**
 * Runs of calls with arguments by a fixed row of numbers, ordinary and out of range, on NameLand and on
 * NaiveLand: each answer and each exception has to be the same, so a call that throws changes nothing.
 */
public final class RandomRunsTest {
    private static final int RUNS = 400;
    private static final int CALLS = 512;
    private static final String[] METHODS = {"feature", "move", "part", "end", "of", "name", "law", "except", "form",
        "petition", "vote", "protest", "decide", "appeal", "petitionOf", "census", "dispute", "shown", "display",
        "table", "write", "back", "loss", "reading", "cost", "assign", "ways", "find", "pull", "copy", "order",
        "budget", "sign", "pass"};
    /** What some runs call most: councils, laws and exceptions, STREETS in places, signs. */
    private static final int[][] OFTEN = {{9, 10, 10, 10, 10, 12, 13, 5, 2, 8, 33}, {5, 6, 7, 8, 8, 17, 27, 29, 28, 33},
        {2, 5, 5, 3, 9, 10, 10, 10, 12, 4, 33}, {5, 30, 31, 32, 18, 16, 15, 17, 33}, {5, 23, 24, 25, 26, 1, 3, 27, 33}};
    private static final int[] ODD = {-1, -2, 24, 25, 100, 401, 10000, Integer.MAX_VALUE, Integer.MIN_VALUE, 27, 9, 16};

    private static final TreeMap<String, Integer> ANSWERS = new TreeMap<>();
    private static long seed;

    private RandomRunsTest() {
    }

    public static void main(String[] args) {
        for (int run = 0; run < RUNS; run++) {
            seed = 1000003L * run + 17;
            run(run);
        }
        if (args.length > 0) {
            System.out.println(ANSWERS);
        }
        Check.end("RandomRunsTest");
    }

    private static int next(int bound) {
        seed = seed * 6364136223846793005L + 1442695040888963407L;
        return (int) ((seed >>> 33) % bound);
    }

    private static int number(int bound) {
        return next(40) == 0 ? ODD[next(ODD.length)] : next(bound);
    }

    private static long word() {
        if (next(60) == 0) {
            long[] odd = {0, -1, 27, 282429536481L, 150094635296999121L, Long.MAX_VALUE, Long.MIN_VALUE};
            return odd[next(odd.length)];
        }
        int letters = next(30) == 0 ? 1 + next(12) : 1 + next(3);
        long word = 0;
        for (int i = 0; i < letters; i++) {
            word = word * 27 + (next(10) == 0 ? 1 + next(26) : 1 + next(2));
        }
        return word;
    }

    private static int day(int today) {
        return next(20) == 0 ? number(10000) : Math.max(next(30) - 1, today - 20 + next(next(3) == 0 ? 150 : 50));
    }

    /** The method of a call: some runs call some methods often, so that limits and rare states are reached. */
    private static int method(int run, int call, int features) {
        if (call < features) {
            return 0;
        }
        int[] often = OFTEN[run / 3 % OFTEN.length];
        if (run % 3 == 0) {
            return next(3) == 0 ? run / 3 % METHODS.length : next(METHODS.length);
        }
        return next(4) != 0 ? often[next(often.length)] : next(METHODS.length);
    }

    private static void run(int run) {
        NameLand land = new NameLand();
        NaiveLand naive = new NaiveLand();
        int features = 2 + run % 25;
        int today = 0;
        for (int call = 0; call < CALLS; call++) {
            int method = method(run, call, features);
            if (method == 33 && next(3) != 0 || method == 0 && call >= features && next(10) != 0) {
                continue;
            }
            long[] a = arguments(method, features, today);
            String want = answer(naive, METHODS[method], a);
            String got = answer(land, METHODS[method], a);
            Check.due("run " + run + " call " + call + " " + METHODS[method] + Arrays.toString(a), got, want);
            ANSWERS.merge(METHODS[method] + (want.startsWith("java") || method == 12 ? " " + want : ""), 1, Integer::sum);
            today = method == 33 && !want.startsWith("java") ? Integer.parseInt(want) : today;
        }
    }

    private static long[] arguments(int method, int features, int today) {
        int f = number(features);
        int t = number(4);
        switch (method) {
            case 0: return new long[] {next(2) == 0 ? 5 : number(6), number(100), number(100)};
            case 1: return new long[] {f, number(100), number(100), day(today)};
            case 2: return new long[] {f, next(2) == 0 ? number(2) : number(features) - 1, day(today)};
            case 3: return new long[] {f, number(features) - 1, day(today)};
            case 4: return new long[] {f, number(5), day(today), day(today)};
            case 5: return new long[] {f, t, word(), day(today)};
            case 6: return new long[] {t, day(today), 1 + number(3), number(4), number(4)};
            case 7: return new long[] {f, t, day(today)};
            case 8: return new long[] {f, t, day(today), day(today)};
            case 9: return new long[] {f, t, word(), day(today) + 35};
            case 10: return new long[] {number(5), number(9), next(4)};
            case 11: return new long[] {number(5), number(20) / 10};
            case 12: case 13: return new long[] {number(5)};
            case 14: return new long[] {number(5), number(5)};
            case 15: return new long[] {f, t, next(2) == 0 ? number(25) : number(101)};
            case 16: return new long[] {f, t, number(4)};
            case 17: return new long[] {f, day(today)};
            case 18: return new long[] {f, t};
            case 19: return new long[] {t, 1 + number(26), 1 + number(26)};
            case 20: case 21: return new long[] {word(), t};
            case 22: return new long[] {t};
            case 23: return new long[] {word(), number(100), number(100)};
            case 24: return new long[] {number(4), f};
            case 25: case 26: return new long[0];
            case 27: return new long[] {word(), number(100), number(100), number(6)};
            case 28: return new long[] {t};
            case 29: return new long[] {t, f, number(4)};
            case 30: case 32: return new long[] {f};
            case 31: return new long[] {number(11)};
            default: return new long[] {next(30) == 0 ? number(401) : 1 + next(10)};
        }
    }

    /** What a method answers, told as a text, or the name of the exception that it throws. */
    private static String answer(Object land, String name, long[] a) {
        for (Method method : land.getClass().getDeclaredMethods()) {
            if (method.getName().equals(name) && method.getParameterCount() == a.length) {
                try {
                    return "" + method.invoke(land, converted(method.getParameterTypes(), a));
                } catch (InvocationTargetException thrown) {
                    return Check.nameOf(thrown.getCause());
                } catch (IllegalAccessException none) {
                    return "no access to " + name;
                }
            }
        }
        return "no method " + name;
    }

    private static Object[] converted(Class<?>[] types, long[] a) {
        Object[] converted = new Object[a.length];
        for (int i = 0; i < a.length; i++) {
            if (types[i] == boolean.class) {
                converted[i] = a[i] != 0;
            } else {
                converted[i] = types[i] == int.class ? (Object) (int) a[i] : (Object) a[i];
            }
        }
        return converted;
    }
}
