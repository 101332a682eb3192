import java.lang.management.ManagementFactory;
import java.lang.reflect.Method;
import java.lang.reflect.Modifier;
import java.util.ArrayList;
import java.util.Comparator;
import java.util.List;
import java.util.Random;

/**
 * Calls with any arguments in any state: none throws, the same calls answer the same, what only asks changes
 * nothing, and a run makes hardly any objects.
 */
public final class WildTest {
    private static final int[] ODD_ONES = {Integer.MIN_VALUE, Integer.MIN_VALUE + 1, -21, -10, -3, -2, -1, 31, 32, 63,
        64, 100, 255, 256, 599, 600, 601, 999, 1000, 9999, 10000, 65536, Integer.MAX_VALUE - 1, Integer.MAX_VALUE};
    private static final List<String> CHANGING = List.of("feed", "end", "text", "image", "again");
    private static final int CALLS = 512;

    public static void main(String[] args) throws Exception {
        Check check = new Check();
        List<Method> calls = face();
        for (int seed = 0; seed < 1500 && check.wrongOnes() == 0; seed++) {
            long first = run(seed, calls, check, 0);
            check.due("seed " + seed + " once more", run(seed, calls, check, 0), first);
        }
        for (int seed = 0; seed < 150 && check.wrongOnes() == 0; seed++) {
            run(seed, calls, check, 1);
        }
        check.due("bytes that a run of dear calls makes", bytesOfDearRun() < 200_000, true);
        check.finish();
    }

    private static List<Method> face() {
        List<Method> calls = new ArrayList<>();
        for (Method m : GooseBorder.class.getDeclaredMethods()) {
            if (Modifier.isPublic(m.getModifiers())) {
                calls.add(m);
            }
        }
        calls.sort(Comparator.comparing(Method::getName));
        return calls;
    }

    private static long run(int seed, List<Method> calls, Check check, int watched) {
        Random r = new Random(seed);
        GooseBorder x = new GooseBorder();
        long all = 0;
        for (int i = 0; i < CALLS; i++) {
            if (i % 20 == 0) {
                tellSome(x, r);
            }
            Method call = calls.get(r.nextInt(calls.size()));
            Object[] with = arguments(r, call);
            long before = watched == 1 ? Look.at(x) : 0;
            try {
                Object answer = call.invoke(x, with);
                long told = answer instanceof Boolean b ? (b ? 1 : 0) : ((Number) answer).longValue();
                all = all * 31 + told;
            } catch (ReflectiveOperationException e) {
                check.due("seed " + seed + ": " + call.getName() + java.util.Arrays.toString(with) + " threw "
                    + e.getCause(), 1, 0);
            }
            if (watched == 1 && !CHANGING.contains(call.getName())) {
                check.due("seed " + seed + ": state after " + call.getName(), Look.at(x), before);
            }
        }
        return all;
    }

    private static void tellSome(GooseBorder x, Random r) {
        int sort = r.nextInt(4);
        int at = r.nextInt(3) - 1;
        Model.Border b = new Model.Border(Texts.lines(0, Texts.border(r, r.nextInt(6), r.nextInt(9))));
        String text = switch (sort) {
            case 0 -> Texts.border(r, r.nextInt(6), r.nextInt(9));
            case 1 -> Texts.night(r, b, r.nextInt(25));
            case 2 -> Texts.law(r);
            default -> Texts.dawn(r, b);
        };
        Teller.tell(x, sort, at, text);
    }

    private static Object[] arguments(Random r, Method call) {
        Class<?>[] kinds = call.getParameterTypes();
        Object[] with = new Object[kinds.length];
        for (int i = 0; i < with.length; i++) {
            if (kinds[i] == boolean.class) {
                with[i] = r.nextBoolean();
            } else if (r.nextInt(8) == 0) {
                with[i] = ODD_ONES[r.nextInt(ODD_ONES.length)];
            } else {
                with[i] = i == 0 ? r.nextInt(3) - (r.nextInt(9) == 0 ? 1 : 0) : r.nextInt(r.nextBoolean() ? 4 : 30) - 1;
            }
        }
        return with;
    }

    /** Objects live to the end of a run, so calls make none; what is made with the object itself is small. */
    private static long bytesOfDearRun() {
        com.sun.management.ThreadMXBean bean = (com.sun.management.ThreadMXBean) ManagementFactory.getThreadMXBean();
        String border = "path 1 9 9;".repeat(5) + "goose 4 0 9 1 9;".repeat(6);
        String dawn = "left 0 8;left 1 8;left 2 8;left 3 8;left 4 8;";
        String night = "march 0 0;march 1 1;rain 3;home 0 2;fox 1;march 2 3;";
        dear(Teller.told(border, night, "each 3;odd 9;most 99;", dawn));
        long id = Thread.currentThread().getId();
        long before = bean.getThreadAllocatedBytes(id);
        GooseBorder x = Teller.told(border, night, "each 3;odd 9;most 99;", dawn);
        dear(x);
        return bean.getThreadAllocatedBytes(id) - before;
    }

    private static void dear(GooseBorder x) {
        for (int i = 0; i < 40; i++) {
            x.even(0, 0);
            x.richest(0, 0, 0);
            x.close(0, true);
            x.fits(0, 0);
            x.told(0, 0, 10);
            x.shift(0, 0, true);
            x.rest(0, 0, -1);
            x.who(0, 0, 0, 7);
            x.drawn(0, i, 20, 0);
            x.image(i % 3);
            x.again(i % 3);
        }
    }
}
