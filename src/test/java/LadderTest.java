/** Promises 27 to 33: minima and the ladder. */
final class LadderTest {
    private LadderTest() { }

    static void run() {
        Check.test("promise 27: cycle", LadderTest::promise27);
        Check.test("promise 27: order of minima", LadderTest::promise27Order);
        Check.test("promise 27: wrong arguments", LadderTest::promise27Wrong);
        Check.test("promise 28: lost", LadderTest::promise28);
        Check.test("promise 29: dust", LadderTest::promise29);
        Check.test("promise 30: zero", LadderTest::promise30);
        Check.test("promise 31: mean", LadderTest::promise31);
        Check.test("promise 32: modulus", LadderTest::promise32);
        Check.test("promise 32: halvings", LadderTest::promise32Halvings);
        Check.test("promise 33: nearest", LadderTest::promise33);
    }

    private static LightcurveHouse withStars(int count) {
        LightcurveHouse x = new LightcurveHouse();
        for (int i = 0; i < count; i++) {
            x.star(91);
        }
        return x;
    }

    private static int tell(LightcurveHouse x, int star, int comparison, int light) {
        x.comparison(comparison, light);
        return x.step(star, 0, 0, comparison, 0, 1, comparison == 0 ? 1 : 0);
    }

    private static void cycles(LightcurveHouse x, int star, int period, int[] cycles, int[] offsets) {
        for (int i = 0; i < cycles.length; i++) {
            Check.due("cycle at " + i, x.cycle(star, period, i, false), cycles[i]);
            Check.due("offset at " + i, x.cycle(star, period, i, true), offsets[i]);
        }
    }

    private static void promise27() {
        LightcurveHouse x = withStars(1);
        for (int minute : new int[] {1000, 1049, 1050, 1149, 1151, 1300}) {
            x.minimum(0, minute);
        }
        cycles(x, 0, 100, new int[] {0, 0, 1, 1, 2, 3}, new int[] {0, 49, -50, 49, -49, 0});
        cycles(x, 0, 101, new int[] {0, 0, 0, 1, 1, 3}, new int[] {0, 49, 50, 48, 50, -3});
        cycles(x, 0, 99, new int[] {0, 0, 1, 2, 2, 3}, new int[] {0, 49, -49, -49, -47, 3});
        cycles(x, 0, 1000000, new int[6], new int[] {0, 49, 50, 149, 151, 300});
    }

    private static void promise27Order() {
        LightcurveHouse x = new LightcurveHouse();
        x.star(0);
        x.star(182);
        x.star(91);
        x.minimum(0, 500);
        x.minimum(2, 100);
        x.minimum(1, 515);
        x.minimum(0, 400);
        Check.due("told later, but first", x.cycle(0, 1000, 1, true), 100);
        x.merge(0, 1);
        Check.due("late light: 408", x.cycle(1, 1000, 0, true), 0);
        Check.due("early light: 507", x.cycle(1, 1000, 1, true), 99);
        Check.due("late light: 508", x.cycle(1, 1000, 2, true), 100);
        Check.due("of a star by itself", x.cycle(2, 1000, 0, true), 0);
        x.merge(2, 1);
        Check.due("of all of the entry", x.cycle(1, 1000, 3, true), 408);
        Check.index("no more", () -> x.cycle(1, 1000, 4, true));
    }

    private static void promise27Wrong() {
        LightcurveHouse x = withStars(2);
        x.minimum(0, 100);
        x.minimum(0, 200);
        for (int place : Check.outside(0, 1)) {
            Check.index("place " + place, () -> x.cycle(0, 100, place, true));
            Check.index("place " + place + " and period", () -> x.cycle(0, 29, place, true));
        }
        for (int period : Check.outside(30, 1000000)) {
            Check.argument("period " + period, () -> x.cycle(0, period, 1, false));
        }
        for (int star : Check.outside(0, 1)) {
            Check.index("star " + star, () -> x.cycle(star, 29, 0, true));
        }
        Check.index("no minima", () -> x.cycle(1, 100, 0, true));
        Check.due("all that there is", x.cycle(0, 30, 1, false), 3);
    }

    private static void promise28() {
        LightcurveHouse x = withStars(2);
        Check.due("no minima", x.lost(0, 100), 0);
        x.minimum(0, 1000);
        Check.due("one", x.lost(0, 100), 0);
        x.minimum(0, 1225);
        Check.due("4 * 25 is not above 100", x.lost(0, 100), 0);
        x.minimum(0, 1351);
        Check.due("offsets 0, 25, -49", x.lost(0, 100), 1);
        x.minimum(0, 1477);
        Check.due("offsets 0, 25, -49, -23: 4 * 26", x.lost(0, 100), 2);
        x.minimum(0, 1275);
        Check.due("offsets 0, 25, -25, -49, -23", x.lost(0, 100), 2);
        Check.due("long period", x.lost(0, 1000000), 0);
        Check.due("of the other star", x.lost(1, 100), 0);
        x.merge(1, 0);
        Check.due("of the entry", x.lost(1, 100), 2);
        for (int period : Check.outside(30, 1000000)) {
            Check.argument("period " + period, () -> x.lost(0, period));
        }
        for (int star : Check.outside(0, 1)) {
            Check.index("star " + star, () -> x.lost(star, 29));
        }
    }

    private static void promise29() {
        LightcurveHouse x = withStars(2);
        Check.due("at first", x.dust(1, 500), 0);
        Check.due("before", x.dust(1, 0), 500);
        Check.due("before", x.dust(1, 30), 0);
        for (int dust : Check.outside(0, 500)) {
            Check.argument("dust " + dust, () -> x.dust(1, dust));
        }
        for (int star : Check.outside(0, 1)) {
            Check.index("star " + star, () -> x.dust(star, 501));
        }
        tell(x, 1, 0, 1000);
        x.claim(1, 32);
        Check.due("modulus less dust", x.modulus(1), 1000 - 30 + 375);
        x.merge(0, 1);
        Check.due("dust of the lowest star, though 0", x.modulus(1), 1000 + 375);
        x.dust(0, 7);
        Check.due("dust of the lowest star", x.modulus(1), 1000 - 7 + 375);
        x.split(0);
        Check.due("its own", x.modulus(1), 1000 - 30 + 375);
    }

    private static void promise30() {
        LightcurveHouse x = withStars(1);
        Check.due("at first", x.zero(1000), 0);
        Check.due("before", x.zero(-1000), 1000);
        for (int zero : Check.outside(-1000, 1000)) {
            Check.argument("zero " + zero, () -> x.zero(zero));
        }
        tell(x, 0, 0, 5);
        x.claim(0, 30);
        Check.due("less the zero", x.modulus(0), 5 + 1000 + 300);
        Check.due("unchanged", x.zero(0), -1000);
        Check.due("without it", x.modulus(0), 305);
    }

    private static void promise31() {
        LightcurveHouse x = withStars(2);
        Check.state("no look", () -> x.mean(0));
        tell(x, 0, 0, 1000);
        int second = tell(x, 0, 1, 1001);
        Check.due("1000.5", x.mean(0), 1000);
        tell(x, 0, 2, 1001);
        Check.due("1000.7", x.mean(0), 1000);
        x.comparison(0, -3);
        x.comparison(1, 0);
        x.comparison(2, 2);
        Check.due("-1/3, rounded down", x.mean(0), -1);
        x.doubt(second, true);
        Check.due("-1/2, rounded down", x.mean(0), -1);
        x.bias(0, 10);
        Check.due("of the light, not the raw", x.mean(0), -11);
        x.merge(1, 0);
        Check.due("of the entry", x.mean(1), -11);
        x.doubt(0, true);
        x.doubt(2, true);
        Check.state("all doubted", () -> x.mean(0));
        for (int star : Check.outside(0, 1)) {
            Check.index("star " + star, () -> x.mean(star));
        }
    }

    private static void promise32() {
        LightcurveHouse x = withStars(3);
        Check.state("no claim, no look", () -> x.modulus(0));
        x.claim(1, 100);
        Check.state("no look", () -> x.modulus(1));
        tell(x, 0, 0, 1000);
        tell(x, 0, 1, 1003);
        Check.state("no claim", () -> x.modulus(0));
        x.merge(0, 1);
        Check.due("100 50 25 12 6 3 1", x.modulus(0), 1001 + 6 * 75);
        Check.due("by any star of the entry", x.modulus(1), 1001 + 6 * 75);
        x.doubt(0, true);
        Check.due("but for the doubted", x.modulus(1), 1003 + 6 * 75);
        x.doubt(1, true);
        Check.state("all doubted", () -> x.modulus(1));
        for (int star : Check.outside(0, 2)) {
            Check.index("star " + star, () -> x.modulus(star));
        }
    }

    private static void promise32Halvings() {
        LightcurveHouse x = withStars(1);
        tell(x, 0, 0, 0);
        int[] claims = {30, 31, 32, 63, 64, 65, 524287, 524288, 1000000};
        int[] halvings = {4, 4, 5, 5, 6, 6, 18, 19, 19};
        for (int i = 0; i < claims.length; i++) {
            x.claim(0, claims[i]);
            Check.due("claim " + claims[i], x.modulus(0), 75 * halvings[i]);
        }
    }

    private static void promise33() {
        LightcurveHouse x = withStars(5);
        Check.due("none", x.nearest(0), LightcurveHouse.NONE);
        int[] lights = {900, 500, 900, 100, 700};
        for (int i = 0; i < 5; i++) {
            tell(x, i, i, lights[i]);
            x.claim(i, 32);
        }
        int[] order = {3, 1, 4, 0, 2, -1};
        for (int i = 0; i < order.length; i++) {
            Check.due("at " + i, x.nearest(i), order[i]);
        }
        x.dust(2, 1);
        Check.due("less by its dust", x.nearest(3), 2);
        x.zero(1000);
        Check.due("also below 0", x.nearest(0), 3);
        Check.due("also below 0", x.nearest(4), 0);
        x.claim(3, 1000000);
        Check.due("by the modulus, not the mean", x.nearest(4), 3);
        x.claim(1, 0);
        x.doubt(4, true);
        int[] rest = {2, 0, 3, -1};
        for (int i = 0; i < rest.length; i++) {
            Check.due("without claim or look, at " + i, x.nearest(i), rest[i]);
        }
        x.merge(3, 1);
        Check.due("the entry's number", x.nearest(2), 1);
        x.merge(1, 0);
        Check.due("all of an entry", x.nearest(0), 0);
        Check.due("the rest", x.nearest(1), 2);
        Check.due("once", x.nearest(2), -1);
        Check.due("far", x.nearest(Integer.MAX_VALUE), -1);
        Check.index("below 0", () -> x.nearest(-1));
        Check.index("far below 0", () -> x.nearest(Integer.MIN_VALUE));
    }
}
