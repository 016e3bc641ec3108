/** Promises 16 to 20: looks and periods. */
final class PeriodsTest {
    private PeriodsTest() { }

    static void run() {
        Check.test("promise 16: look", PeriodsTest::promise16);
        Check.test("promise 17: string", PeriodsTest::promise17);
        Check.test("promise 17: order in the string", PeriodsTest::promise17Order);
        Check.test("promise 18: together", PeriodsTest::promise18);
        Check.test("promise 19: period", PeriodsTest::promise19);
        Check.test("promise 19: wrong arguments", PeriodsTest::promise19Wrong);
        Check.test("promise 20: aliases", PeriodsTest::promise20);
        Check.test("promise 20: wrong arguments", PeriodsTest::promise20Wrong);
    }

    /** Stars of place 91 have their light late by 0 on the first day: a look's time is its minute. */
    private static LightcurveHouse withStars(int count) {
        LightcurveHouse x = new LightcurveHouse();
        for (int i = 0; i < count; i++) {
            x.star(91);
        }
        return x;
    }

    /** A look with such a light, by a comparison of its own, or on a plate of its own. */
    private static int tell(LightcurveHouse x, int star, int minute, int comparison, int light) {
        x.comparison(comparison, light);
        return x.step(star, 0, minute, comparison, 0, 1, comparison == 0 ? 1 : 0);
    }

    private static void promise16() {
        LightcurveHouse x = withStars(2);
        x.comparison(1, 1100);
        x.bias(2, 7);
        x.clock(2, 30);
        x.step(1, 2, 500, 0, 1, 2, 1);
        x.plate(600, 1500, 5);
        x.density(0, 0, 33);
        x.doubt(0, true);
        x.merge(0, 1);
        int[] step = {1033, 1026, 470, 1, 1, 0};
        int[] density = {1484, 1484, 600, 0, 0, 1};
        for (int what = 0; what < 6; what++) {
            Check.due("of the step, " + what, x.look(0, what), step[what]);
            Check.due("of the density, " + what, x.look(1, what), density[what]);
        }
        for (int what : Check.outside(0, 5)) {
            Check.argument("what " + what, () -> x.look(0, what));
        }
        for (int look : Check.outside(0, 1)) {
            Check.index("look " + look, () -> x.look(look, 6));
        }
    }

    private static void promise17() {
        LightcurveHouse x = withStars(2);
        Check.due("without looks", x.string(0, 30), 0);
        int first = tell(x, 0, 10, 0, 1000);
        Check.due("of one look", x.string(0, 30), 0);
        tell(x, 0, 40, 1, 1030);
        Check.due("of two, there and back", x.string(0, 1000000), 60);
        int third = tell(x, 0, 65, 2, 990);
        Check.due("of three", x.string(0, 1000000), 80);
        tell(x, 0, 95, 3, 1050);
        Check.due("by times: 1000 1030 990 1050", x.string(0, 1000000), 30 + 40 + 60 + 50);
        Check.due("by 30: 990 1050 1000 1030", x.string(0, 30), 60 + 50 + 30 + 40);
        Check.due("by 60: 990 1000 1050 1030", x.string(0, 60), 10 + 50 + 20 + 40);
        x.doubt(third, true);
        Check.due("but for the doubted: 1000 1030 1050", x.string(0, 1000000), 100);
        x.doubt(first, true);
        Check.due("but for the doubted: 1030 1050", x.string(0, 1000000), 40);
        Check.due("of the other star", x.string(1, 30), 0);
        for (int period : Check.outside(30, 1000000)) {
            Check.argument("period " + period, () -> x.string(0, period));
        }
        for (int star : Check.outside(0, 1)) {
            Check.index("star " + star, () -> x.string(star, 29));
        }
    }

    private static void promise17Order() {
        LightcurveHouse x = withStars(1);
        x.clock(0, 1000);
        tell(x, 0, 999, 1, 100);
        tell(x, 0, 1000, 2, 110);
        tell(x, 0, 1010, 3, 150);
        tell(x, 0, 985, 4, 160);
        Check.due("time below 0", x.look(0, 2), -1);
        Check.due("remainders 99, 0, 10, 85: 110 150 160 100", x.string(0, 100), 120);
        LightcurveHouse y = withStars(1);
        tell(y, 0, 250, 1, 0);
        tell(y, 0, 150, 2, 7);
        tell(y, 0, 50, 3, 100);
        tell(y, 0, 151, 4, 300);
        Check.due("one remainder, by times: 100 7 0 300", y.string(0, 100), 93 + 7 + 300 + 200);
        LightcurveHouse z = withStars(1);
        tell(z, 0, 50, 1, 40);
        tell(z, 0, 50, 2, 0);
        tell(z, 0, 50, 3, 30);
        tell(z, 0, 50, 4, 10);
        Check.due("one time, by numbers: 40 0 30 10", z.string(0, 100), 40 + 30 + 20 + 30);
    }

    private static void promise18() {
        LightcurveHouse x = withStars(4);
        tell(x, 1, 50, 1, 40);
        tell(x, 0, 50, 2, 0);
        tell(x, 1, 50, 3, 30);
        tell(x, 2, 50, 4, 10);
        tell(x, 0, 50, 5, 20);
        Check.due("by numbers over both: 40 0 30 20", x.together(0, 1, 100), 40 + 30 + 10 + 20);
        Check.due("the other way", x.together(1, 0, 100), 100);
        Check.due("the same star", x.together(1, 1, 100), 20);
        Check.due("without looks", x.together(3, 3, 100), 0);
        Check.due("one without looks", x.together(3, 1, 100), 20);
        x.merge(2, 1);
        Check.due("all of the entry: 40 0 30 10 20", x.together(2, 0, 100), 40 + 30 + 20 + 10 + 20);
        Check.due("of one entry, once: 40 30 10", x.together(1, 2, 100), 60);
        Check.due("nothing changes", x.entries(-1), 3);
        Check.due("nothing changes", x.entry(0), 0);
        x.doubt(1, true);
        Check.due("but for the doubted: 40 30 10 20", x.together(0, 2, 100), 10 + 20 + 10 + 20);
        for (int period : Check.outside(30, 1000000)) {
            Check.argument("period " + period, () -> x.together(0, 1, period));
        }
        for (int star : Check.outside(0, 3)) {
            Check.index("star " + star, () -> x.together(star, 0, 29));
            Check.index("other " + star, () -> x.together(0, star, 29));
        }
    }

    /** Up and down, once in 100 minutes, seen in three such times far enough from each other to tell 99 and 101. */
    private static LightcurveHouse wave() {
        LightcurveHouse x = withStars(2);
        int[] lights = {1000, 1010, 1030, 1060, 1040, 1020};
        for (int i = 0; i < 6; i++) {
            x.comparison(i, lights[i]);
        }
        int[] starts = {0, 700, 2100};
        for (int i = 0; i < 18; i++) {
            int at = i % 6;
            x.step(0, 0, starts[i / 6] + at * 16, at, 0, 1, at == 0 ? 1 : 0);
        }
        return x;
    }

    private static void promise19() {
        LightcurveHouse x = wave();
        Check.due("string of the best", x.string(0, 100), 120);
        Check.due("a trial beside it has more", x.string(0, 101) > 120 ? 1 : 0, 1);
        Check.due("the shortest of those", x.period(0, 90, 110, 1), 100);
        Check.due("one trial", x.period(0, 77, 77, 1000000), 77);
        Check.due("a step beyond the end", x.period(0, 93, 103, 11), 93);
        Check.due("the end is a trial", x.period(0, 90, 100, 10), 100);
        Check.due("of several the shortest", x.period(0, 100, 350, 250), 100);
        Check.due("none above the end", x.period(0, 99, 119, 3) <= 119 ? 1 : 0, 1);
        LightcurveHouse y = withStars(1);
        tell(y, 0, 0, 0, 5);
        tell(y, 0, 0, 0, 5);
        tell(y, 0, 0, 0, 5);
        Check.due("all alike", y.period(0, 30, 1000000, 5026), 30);
        Check.due("the last trial is the end itself", y.period(0, 1000000, 1000000, 1), 1000000);
        x.merge(1, 0);
        Check.due("by any star of the entry", x.period(1, 90, 110, 1), 100);
    }

    private static void promise19Wrong() {
        LightcurveHouse x = wave();
        for (int wrong : Check.outside(30, 1000000)) {
            Check.argument("from " + wrong, () -> x.period(0, wrong, 1000000, 1000000));
            Check.argument("from and to " + wrong, () -> x.period(0, wrong, wrong, 1000000));
            Check.argument("to " + wrong, () -> x.period(0, 30, wrong, 1000000));
        }
        for (int wrong : Check.outside(1, 1000000)) {
            Check.argument("step " + wrong, () -> x.period(0, 30, 30, wrong));
        }
        Check.argument("to below from", () -> x.period(0, 100, 99, 1));
        Check.due("200 trials", x.period(0, 90, 289, 1), 100);
        Check.argument("201 trials", () -> x.period(0, 90, 290, 1));
        Check.due("200 trials by 2", x.period(0, 90, 489, 2), 100);
        Check.argument("201 trials by 2", () -> x.period(0, 90, 490, 2));
        Check.argument("very many trials", () -> x.period(0, 30, 1000000, 1));
        for (int star : Check.outside(0, 1)) {
            Check.index("star " + star, () -> x.period(star, 29, 29, 0));
        }
        Check.state("no looks", () -> x.period(1, 30, 30, 1));
        Check.argument("no looks, and wrong", () -> x.period(1, 30, 30, 0));
        Check.argument("no looks, and 201 trials", () -> x.period(1, 90, 290, 1));
        for (int i = 3; i < 18; i++) {
            x.doubt(i, true);
        }
        Check.due("3 looks", x.period(0, 100, 100, 1), 100);
        x.doubt(0, true);
        Check.state("2 looks and doubted ones", () -> x.period(0, 100, 100, 1));
    }

    private static void promise20() {
        LightcurveHouse x = wave();
        int[] percents = {0, 1, 10, 49, 50};
        for (int percent : percents) {
            long best = x.string(0, x.period(0, 90, 110, 1));
            int count = 0;
            for (int trial = 90; trial <= 110; trial++) {
                if (100L * x.string(0, trial) <= (100 + percent) * best) {
                    count++;
                }
            }
            Check.due("percent " + percent, x.aliases(0, 90, 110, 1, percent), count - 1);
        }
        Check.due("one trial", x.aliases(0, 100, 100, 1, 50), 0);
        Check.due("one alike", x.aliases(0, 100, 350, 250, 0), 1);
        LightcurveHouse y = withStars(1);
        tell(y, 0, 0, 0, 0);
        tell(y, 0, 40, 1, 25);
        tell(y, 0, 80, 2, 50);
        tell(y, 0, 135, 3, 12);
        Check.due("by 1000000: 0 25 50 12", y.string(0, 1000000), 100);
        Check.due("by 100: 0 12 25 50", y.string(0, 100), 100);
        Check.due("by 90: 0 25 12 50", y.string(0, 90), 126);
        Check.due("126 is above 125 of 100", y.aliases(0, 90, 100, 10, 25), 0);
        Check.due("126 is 126 of 100", y.aliases(0, 90, 100, 10, 26), 1);
        LightcurveHouse z = withStars(1);
        tell(z, 0, 0, 0, 5);
        tell(z, 0, 1, 0, 5);
        tell(z, 0, 2, 0, 5);
        Check.due("all of string 0, but the best one", z.aliases(0, 30, 229, 1, 0), 199);
    }

    private static void promise20Wrong() {
        LightcurveHouse x = wave();
        for (int wrong : Check.outside(30, 1000000)) {
            Check.argument("from " + wrong, () -> x.aliases(0, wrong, 1000000, 1000000, 0));
            Check.argument("to " + wrong, () -> x.aliases(0, 30, wrong, 1000000, 0));
        }
        for (int wrong : Check.outside(1, 1000000)) {
            Check.argument("step " + wrong, () -> x.aliases(0, 30, 30, wrong, 0));
        }
        for (int wrong : Check.outside(0, 50)) {
            Check.argument("percent " + wrong, () -> x.aliases(0, 30, 30, 1, wrong));
            Check.argument("no looks, percent " + wrong, () -> x.aliases(1, 30, 30, 1, wrong));
        }
        Check.argument("to below from", () -> x.aliases(0, 100, 99, 1, 0));
        Check.argument("201 trials", () -> x.aliases(0, 90, 290, 1, 0));
        for (int star : Check.outside(0, 1)) {
            Check.index("star " + star, () -> x.aliases(star, 29, 29, 0, 51));
        }
        Check.state("no looks", () -> x.aliases(1, 30, 30, 1, 0));
        for (int i = 2; i < 18; i++) {
            x.doubt(i, true);
        }
        Check.state("2 looks", () -> x.aliases(0, 30, 30, 1, 0));
        x.doubt(2, false);
        Check.due("3 looks", x.aliases(0, 30, 30, 1, 0), 0);
    }
}
