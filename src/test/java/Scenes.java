import java.util.ArrayList;
import java.util.List;

/** What houses are told before a boundary is tried: lists of calls, so that several can be told the same. */
final class Scenes {
    interface CallOf { long answer(LightcurveHouse x); }

    static final int MIN = Integer.MIN_VALUE, MAX = Integer.MAX_VALUE;
    static final int NONE = LightcurveHouse.NONE;
    static final int AMPLITUDE = LightcurveHouse.AMPLITUDE, PERIOD = LightcurveHouse.PERIOD, RISE = LightcurveHouse.RISE;

    static final List<CallOf> EMPTY = List.of();
    /** 4 stars (1 and 3 are one entry, 2 has no look and no claim), 2 plates, 8 looks, 3 rules, 6 minima. */
    static final List<CallOf> FEW = few();
    /** All that can be kept: 12 stars, 8 plates, 80 looks, 8 rules, 30 minima. */
    static final List<CallOf> FULL = full();
    static final List<List<CallOf>> ALL = List.of(EMPTY, FEW, FULL);
    static final List<List<CallOf>> SOME = List.of(FEW, FULL);

    private Scenes() { }

    static LightcurveHouse house(List<CallOf> scene) {
        LightcurveHouse x = new LightcurveHouse();
        for (CallOf call : scene) {
            call.answer(x);
        }
        return x;
    }

    static List<CallOf> with(List<CallOf> scene, CallOf... more) {
        List<CallOf> all = new ArrayList<>(scene);
        all.addAll(List.of(more));
        return all;
    }

    static List<CallOf> times(int count, CallOf call) {
        List<CallOf> all = new ArrayList<>();
        for (int i = 0; i < count; i++) {
            all.add(call);
        }
        return all;
    }

    static long bit(boolean is) {
        return is ? 1 : 0;
    }

    static LightcurveHouse stars(int... places) {
        LightcurveHouse x = new LightcurveHouse();
        for (int place : places) {
            x.star(place);
        }
        return x;
    }

    /** Stars of place 91: their light is late by 0 up to minute 17279, so that a time there is the minute. */
    static LightcurveHouse plain(int count) {
        LightcurveHouse x = new LightcurveHouse();
        for (int i = 0; i < count; i++) {
            x.star(91);
        }
        return x;
    }

    /** A look by watcher 0 whose raw is the light of this comparison. */
    static int see(LightcurveHouse x, int star, int minute, int comparison) {
        return x.step(star, 0, minute, comparison, 0, 1, comparison == 0 ? 1 : 0);
    }

    static int see(LightcurveHouse x, int star, int minute, int comparison, int light) {
        x.comparison(comparison, light);
        return see(x, star, minute, comparison);
    }

    /** The light of 0, 1, 2 and 3, each by its comparison, at 0, 40, 80 and 135: by 90 the last two change places. */
    static LightcurveHouse four(int... lights) {
        LightcurveHouse x = plain(2);
        int[] minutes = {0, 40, 80, 135};
        for (int i = 0; i < minutes.length; i++) {
            see(x, 0, minutes[i], i, lights[i]);
        }
        return x;
    }

    private static List<CallOf> few() {
        List<CallOf> all = new ArrayList<>();
        all.addAll(List.of(x -> x.star(0), x -> x.star(91), x -> x.star(182), x -> x.star(363)));
        all.addAll(List.of(x -> x.comparison(1, 900), x -> x.comparison(2, 1103), x -> x.comparison(9, -7)));
        all.addAll(List.of(x -> x.bias(2, 7), x -> x.clock(3, -30), x -> x.zero(12)));
        all.addAll(List.of(x -> x.plate(100, 1500, 7), x -> x.plate(5000, 700, 20)));
        all.addAll(List.of(x -> x.step(0, 0, 10, 1, 3, 4, 2), x -> x.step(0, 2, 777, 2, 9, 0, 9),
                x -> x.step(1, 3, 1445, 0, 0, 5, 1), x -> x.density(0, 0, 133), x -> x.density(3, 1, 255),
                x -> x.step(3, 2, 40, 9, 1, 1, 1), x -> x.density(1, 0, 9), x -> x.step(3, 3, 60, 1, 2, 2, 2)));
        all.addAll(List.of(x -> bit(x.doubt(5, true)), x -> x.claim(0, 300), x -> x.claim(3, 417)));
        all.addAll(List.of(x -> x.rule(2, AMPLITUDE, 0, 1000000, 3), x -> x.rule(0, PERIOD, 300, 417, 2),
                x -> x.rule(4, RISE, 0, 99, -5), x -> bit(x.withdraw(1, true))));
        all.addAll(List.of(x -> x.minimum(0, 500), x -> x.minimum(0, 830), x -> x.minimum(3, 90),
                x -> x.minimum(1, 1500), x -> x.minimum(2, 7), x -> x.minimum(0, 1111)));
        all.addAll(List.of(x -> x.merge(1, 3), x -> x.dust(1, 30), x -> x.dust(3, 4)));
        return List.copyOf(all);
    }

    private static List<CallOf> full() {
        List<CallOf> all = new ArrayList<>();
        for (int i = 0; i < 12; i++) {
            int number = i;
            all.addAll(List.of(x -> x.star(number * 33), x -> x.claim(number, number == 4 ? 0 : 90 + 31 * number)));
        }
        for (int i = 0; i < 8; i++) {
            int number = i;
            all.addAll(List.of(x -> x.plate(number * 700, 900 + 100 * number, 1 + number), x -> x.bias(number, number - 4),
                    x -> x.rule(number % 5, number % 3, 0, 500 + number, 2 * number - 9)));
        }
        for (int i = 0; i < 80; i++) {
            int number = i;
            all.add(i % 3 == 0 ? x -> x.density(number % 11, number % 8, number * 3)
                    : x -> x.step(number % 11, number % 8, number * 177, number % 10, number % 7, 3, (number + 1) % 10));
        }
        for (int i = 0; i < 30; i++) {
            int number = i;
            all.add(x -> x.minimum(number % 7, number * 131));
        }
        for (int i = 0; i < 10; i++) {
            int number = i;
            all.add(x -> x.comparison(number, 900 + 37 * number));
        }
        all.addAll(List.of(x -> x.merge(2, 9), x -> x.merge(9, 6), x -> x.merge(10, 4), x -> x.dust(2, 77),
                x -> x.clock(5, 61), x -> bit(x.doubt(79, true)), x -> bit(x.doubt(12, true)), x -> bit(x.withdraw(7, true))));
        return List.copyOf(all);
    }
}
