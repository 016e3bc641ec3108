import java.lang.reflect.InvocationTargetException;
import java.lang.reflect.Method;
import java.util.ArrayList;
import java.util.HashMap;
import java.util.List;
import java.util.Map;
import java.util.Random;

/** Runs of 512 calls by fixed seeds, each answered by LightcurveHouse and by the Model: they must agree. */
final class RandomRunsTest {
    private static final int RUNS = 400, CALLS = 512;
    private static final int STAR = 0, PLATE = 1, LOOK = 2, RULE = 3, PLACE = 4, MINUTE = 5, PERIOD = 6, FLAG = 7;

    /** A range for an argument: what is told by then, or from the least to the most. */
    private record Range(int sort, int least, int most) { }

    /** How often a call comes, and its arguments. */
    private record Shape(Method real, Method model, int weight, Range[] ranges) { }

    private final Random random;
    private final LightcurveHouse real = new LightcurveHouse();
    private final Model model = new Model();
    private final int span;
    private final int light;
    private final double wild;
    private final int[] told = new int[5];

    private RandomRunsTest(long seed) {
        random = new Random(seed);
        span = new int[] {50, 1000, 20000, 600000, 10000000}[random.nextInt(5)];
        light = new int[] {3, 40, 2000}[random.nextInt(3)];
        wild = new double[] {0, 0.01, 0.1}[random.nextInt(3)];
    }

    static void run() {
        List<Shape> shapes = shapes();
        Check.test("random runs: as the model answers", () -> allRuns(shapes));
    }

    private static void allRuns(List<Shape> shapes) {
        Map<String, Integer> answered = new HashMap<>();
        int wrong = 0;
        for (int seed = 1; seed <= RUNS && wrong < 3; seed++) {
            String first = new RandomRunsTest(seed).firstWrong(shapes, answered);
            if (first != null) {
                wrong++;
                Check.wrong("seed " + seed + ": " + first);
            }
        }
        for (Shape shape : shapes) {
            Check.due(shape.real.getName() + " has answered often",
                    answered.getOrDefault(shape.real.getName(), 0) > 100, true);
        }
    }

    private String firstWrong(List<Shape> shapes, Map<String, Integer> answered) {
        int all = 0;
        for (Shape shape : shapes) {
            all += shape.weight;
        }
        for (int call = 0; call < CALLS; call++) {
            Shape shape = shapes.get(call < 3 ? 1 : pick(shapes, random.nextInt(all)));
            Object[] arguments = arguments(shape.ranges);
            Object got = answer(shape.real, real, arguments);
            Object due = answer(shape.model, model, arguments);
            if (!got.equals(due)) {
                return "call " + call + ", " + shape.real.getName() + List.of(arguments) + " answered " + got
                        + ", due is " + due;
            }
            if (!(got instanceof Class)) {
                answered.merge(shape.real.getName(), 1, Integer::sum);
                count(shape.real.getName(), got);
            }
        }
        return null;
    }

    private static int pick(List<Shape> shapes, int at) {
        int left = at;
        for (int i = 0; i < shapes.size(); i++) {
            left -= shapes.get(i).weight;
            if (left < 0) {
                return i;
            }
        }
        return 0;
    }

    private void count(String name, Object got) {
        int sort = switch (name) {
            case "star" -> STAR;
            case "plate" -> PLATE;
            case "step", "density" -> LOOK;
            case "rule" -> RULE;
            default -> -1;
        };
        if (sort >= 0) {
            told[sort] = (Integer) got + 1;
        }
    }

    private static Object answer(Method method, Object of, Object[] arguments) {
        try {
            return method.invoke(of, arguments);
        } catch (InvocationTargetException e) {
            boolean isOwn = of instanceof Model || Check.isThrownByHouse(e.getCause());
            return isOwn ? e.getCause().getClass() : e.getCause().toString();
        } catch (IllegalAccessException e) {
            return "not to be called";
        }
    }

    private Object[] arguments(Range[] ranges) {
        Object[] all = new Object[ranges.length];
        int from = 0;
        for (int i = 0; i < all.length; i++) {
            Range range = ranges[i];
            int value = range.sort == FLAG ? random.nextInt(2) : one(range, from);
            all[i] = range.sort == FLAG ? (Object) (value == 1) : (Object) value;
            from = value;
        }
        return all;
    }

    private int one(Range range, int before) {
        int least = range.least;
        int most = range.most;
        if (range.sort >= 0 && range.sort < PLACE) {
            most = told[range.sort] - 1;
        }
        if (range.sort == TO) {
            least = before;
            most = Math.max(least, least + random.nextInt(300));
        }
        if (random.nextDouble() < wild) {
            int[] odd = {least - 1, most + 1, -1, 0, Integer.MIN_VALUE, Integer.MAX_VALUE, random.nextInt()};
            return odd[random.nextInt(odd.length)];
        }
        if (range.sort == MINUTE) {
            most = Math.min(most, span - 1);
        }
        if (range.sort == PERIOD && random.nextInt(4) > 0) {
            most = 30 + random.nextInt(Math.min(span, 900000));
        }
        if (range.sort == LIGHT) {
            least = Math.max(least, 1000 - light);
            most = Math.min(most, 1000 + light);
        }
        return most < least ? 0 : random.nextInt(10) == 0 ? (random.nextBoolean() ? least : most)
                : least + random.nextInt(most - least + 1);
    }

    private static final int TO = 8, LIGHT = 9;

    private static Range told(int sort) {
        return new Range(sort, 0, 0);
    }

    private static Range range(int least, int most) {
        return new Range(PLACE, least, most);
    }

    private static Range of(int sort, int least, int most) {
        return new Range(sort, least, most);
    }

    private static List<Shape> shapes() {
        Range star = told(STAR);
        Range period = of(PERIOD, 30, 1000000);
        Range minute = of(MINUTE, 0, 9999999);
        Range flag = told(FLAG);
        Range comparison = range(0, 9), watcher = range(0, 7), step = range(1, 20);
        List<Shape> all = new ArrayList<>();
        add(all, 5, "comparison", comparison, of(LIGHT, -200, 2000));
        add(all, 4, "star", range(0, 363));
        add(all, 3, "bias", watcher, range(-99, 99));
        add(all, 3, "clock", watcher, range(-1440, 1440));
        add(all, 2, "plate", minute, range(-500, 3000), range(1, 20));
        add(all, 2, "join", told(PLATE), of(LIGHT, -500, 3000));
        add(all, 20, "step", star, watcher, minute, comparison, range(0, 9), range(0, 9), comparison);
        add(all, 8, "density", star, told(PLATE), range(0, 255));
        add(all, 6, "doubt", told(LOOK), flag);
        add(all, 6, "minimum", star, minute);
        add(all, 4, "merge", star, star);
        add(all, 3, "split", star);
        add(all, 3, "entry", star);
        add(all, 3, "entries", range(-1, 12));
        add(all, 6, "look", told(LOOK), range(0, 5));
        add(all, 6, "string", star, period);
        add(all, 4, "together", star, star, period);
        add(all, 2, "period", star, period, of(TO, 0, 0), step);
        add(all, 2, "aliases", star, period, of(TO, 0, 0), step, range(0, 50));
        add(all, 5, "claim", star, period);
        add(all, 6, "feature", star, range(0, 2));
        add(all, 1, "rule", range(0, 4), range(0, 2), range(0, 99), of(TO, 0, 0), range(-9, 9));
        add(all, 1, "rule", range(0, 4), range(0, 2), range(0, 99), range(99, 1000000), range(-9, 9));
        add(all, 2, "withdraw", told(RULE), flag);
        add(all, 5, "votes", star, range(0, 4));
        add(all, 5, "kind", star);
        add(all, 8, "cycle", star, period, range(0, 5), flag);
        add(all, 6, "lost", star, period);
        add(all, 3, "dust", star, range(0, 500));
        add(all, 2, "zero", range(-1000, 1000));
        add(all, 4, "mean", star);
        add(all, 4, "modulus", star);
        add(all, 5, "nearest", range(0, 6));
        return all;
    }

    private static void add(List<Shape> all, int weight, String name, Range... ranges) {
        all.add(new Shape(method(LightcurveHouse.class, name), method(Model.class, name), weight, ranges));
    }

    private static Method method(Class<?> of, String name) {
        for (Method method : of.getDeclaredMethods()) {
            if (method.getName().equals(name)) {
                method.setAccessible(true);
                return method;
            }
        }
        throw new IllegalArgumentException(name);
    }
}
