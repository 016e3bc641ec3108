/** Promises 21 to 26: classes. */
final class ClassesTest {
    private static final int AMPLITUDE = LightcurveHouse.AMPLITUDE;
    private static final int PERIOD = LightcurveHouse.PERIOD;
    private static final int RISE = LightcurveHouse.RISE;

    private ClassesTest() { }

    static void run() {
        Check.test("promise 21: claim", ClassesTest::promise21);
        Check.test("promise 22: feature", ClassesTest::promise22);
        Check.test("promise 22: brightest and faintest of several", ClassesTest::promise22Several);
        Check.test("promise 22: wrong arguments", ClassesTest::promise22Wrong);
        Check.test("promise 23: rule", ClassesTest::promise23);
        Check.test("promise 24: withdraw", ClassesTest::promise24);
        Check.test("promise 25: votes", ClassesTest::promise25);
        Check.test("promise 26: kind", ClassesTest::promise26);
    }

    private static LightcurveHouse withStars(int count) {
        LightcurveHouse x = new LightcurveHouse();
        for (int i = 0; i < count; i++) {
            x.star(91);
        }
        return x;
    }

    private static int tell(LightcurveHouse x, int star, int minute, int comparison, int light) {
        x.comparison(comparison, light);
        return x.step(star, 0, minute, comparison, 0, 1, comparison == 0 ? 1 : 0);
    }

    private static void promise21() {
        LightcurveHouse x = withStars(3);
        Check.due("none at first", x.claim(1, 30), 0);
        Check.due("before", x.claim(1, 1000000), 30);
        Check.due("before", x.claim(1, 0), 1000000);
        Check.due("none", x.claim(1, 400), 0);
        Check.due("another star", x.claim(0, 0), 0);
        for (int period : new int[] {29, 1, -1, -30, 1000001, Integer.MIN_VALUE, Integer.MAX_VALUE}) {
            Check.argument("period " + period, () -> x.claim(1, period));
        }
        for (int star : Check.outside(0, 2)) {
            Check.index("star " + star, () -> x.claim(star, 29));
        }
        Check.due("unchanged", x.claim(1, 500), 400);
        x.claim(2, 600);
        tell(x, 2, 0, 0, 5);
        x.merge(2, 1);
        x.merge(1, 0);
        Check.due("of the lowest that has one", x.feature(0, PERIOD), 500);
        x.claim(1, 0);
        Check.due("of the next one", x.feature(0, PERIOD), 600);
        x.claim(0, 700);
        Check.due("of the lowest", x.feature(2, PERIOD), 700);
    }

    private static void promise22() {
        LightcurveHouse x = withStars(2);
        x.claim(0, 300);
        tell(x, 0, 100, 0, 1000);
        Check.due("amplitude of one look", x.feature(0, AMPLITUDE), 0);
        Check.due("rise of one look", x.feature(0, RISE), 0);
        int faint = tell(x, 0, 750, 1, 1070);
        Check.due("amplitude", x.feature(0, AMPLITUDE), 70);
        Check.due("period", x.feature(0, PERIOD), 300);
        Check.due("rise: -650 by 300 is 250, 83 of 100", x.feature(0, RISE), 83);
        tell(x, 0, 1049, 2, 900);
        Check.due("rise: 299 by 300, 99 of 100", x.feature(0, RISE), 99);
        Check.due("amplitude", x.feature(0, AMPLITUDE), 170);
        x.claim(0, 299);
        Check.due("rise: 299 by 299", x.feature(0, RISE), 0);
        x.doubt(faint, true);
        Check.due("but for the doubted", x.feature(0, AMPLITUDE), 100);
        x.claim(0, 1000000);
        Check.due("rise: 949 of 1000000", x.feature(0, RISE), 0);
        x.claim(0, 1000);
        Check.due("rise: 949 of 1000", x.feature(0, RISE), 94);
        x.merge(0, 1);
        Check.due("by any star of the entry", x.feature(1, AMPLITUDE), 100);
    }

    private static void promise22Several() {
        LightcurveHouse x = withStars(1);
        x.claim(0, 1000);
        tell(x, 0, 60, 0, 1000);
        tell(x, 0, 50, 0, 1000);
        tell(x, 0, 70, 0, 1000);
        tell(x, 0, 160, 1, 1010);
        tell(x, 0, 150, 1, 1010);
        tell(x, 0, 155, 1, 1010);
        Check.due("those with the least times: 50 - 150", x.feature(0, RISE), 90);
        x.doubt(1, true);
        Check.due("60 - 150", x.feature(0, RISE), 91);
        x.doubt(4, true);
        Check.due("60 - 155", x.feature(0, RISE), 90);
    }

    private static void promise22Wrong() {
        LightcurveHouse x = withStars(2);
        Check.state("no claim, no look", () -> x.feature(0, PERIOD));
        x.claim(0, 300);
        Check.state("no look", () -> x.feature(0, PERIOD));
        tell(x, 1, 0, 0, 5);
        Check.state("no claim", () -> x.feature(1, AMPLITUDE));
        x.merge(0, 1);
        Check.due("both, of an entry", x.feature(1, PERIOD), 300);
        x.doubt(0, true);
        Check.state("a doubted look", () -> x.feature(0, PERIOD));
        for (int feature : Check.outside(AMPLITUDE, RISE)) {
            Check.argument("feature " + feature, () -> x.feature(0, feature));
        }
        for (int star : Check.outside(0, 1)) {
            Check.index("star " + star, () -> x.feature(star, 3));
        }
    }

    private static void promise23() {
        LightcurveHouse x = withStars(1);
        for (int kind : Check.outside(0, 4)) {
            Check.argument("kind " + kind, () -> x.rule(kind, 0, 0, 0, 1));
        }
        for (int feature : Check.outside(0, 2)) {
            Check.argument("feature " + feature, () -> x.rule(0, feature, 0, 0, 1));
        }
        for (int wrong : Check.outside(0, 1000000)) {
            Check.argument("from " + wrong, () -> x.rule(0, 0, wrong, 1000000, 1));
            Check.argument("both " + wrong, () -> x.rule(0, 0, wrong, wrong, 1));
            Check.argument("to " + wrong, () -> x.rule(0, 0, 0, wrong, 1));
        }
        Check.argument("to below from", () -> x.rule(0, 0, 7, 6, 1));
        for (int votes : Check.outside(-9, 9)) {
            Check.argument("votes " + votes, () -> x.rule(0, 0, 0, 0, votes));
        }
        Check.argument("no votes", () -> x.rule(0, 0, 0, 0, 0));
        Check.due("number", x.rule(0, 0, 0, 0, -9), 0);
        Check.due("number", x.rule(4, 2, 1000000, 1000000, 9), 1);
        for (int i = 2; i < 8; i++) {
            Check.due("number", x.rule(i % 5, i % 3, 0, 1000000, 1), i);
        }
        Check.state("a ninth", () -> x.rule(0, 0, 0, 0, 1));
        Check.argument("a ninth, without votes", () -> x.rule(0, 0, 0, 0, 0));
        x.withdraw(0, true);
        Check.state("a ninth, one withdrawn", () -> x.rule(0, 0, 0, 0, 1));
    }

    private static void promise24() {
        LightcurveHouse x = withStars(1);
        x.claim(0, 300);
        tell(x, 0, 0, 0, 5);
        x.rule(2, AMPLITUDE, 0, 0, 3);
        x.rule(2, AMPLITUDE, 0, 0, 5);
        Check.due("both", x.votes(0, 2), 8);
        Check.due("not at first", x.withdraw(1, false), false);
        Check.due("not yet", x.withdraw(1, true), false);
        Check.due("it was", x.withdraw(1, true), true);
        Check.due("one", x.votes(0, 2), 3);
        Check.due("it was", x.withdraw(1, false), true);
        Check.due("both again", x.votes(0, 2), 8);
        for (int rule : Check.outside(0, 1)) {
            Check.indexAsked("rule " + rule, () -> x.withdraw(rule, true));
        }
    }

    /** Amplitude 170, period 300, rise 83. */
    private static LightcurveHouse claimed() {
        LightcurveHouse x = withStars(3);
        x.claim(0, 300);
        tell(x, 1, 100, 0, 900);
        tell(x, 1, 750, 1, 1070);
        x.merge(0, 1);
        return x;
    }

    private static void promise25() {
        LightcurveHouse x = claimed();
        for (int kind = 0; kind < 5; kind++) {
            Check.due("without rules", x.votes(0, kind), 0);
        }
        x.rule(1, AMPLITUDE, 170, 170, 2);
        x.rule(1, PERIOD, 0, 300, 3);
        x.rule(1, RISE, 83, 1000000, -9);
        x.rule(1, RISE, 84, 99, 9);
        x.rule(1, PERIOD, 0, 299, 9);
        x.rule(1, AMPLITUDE, 171, 200, 9);
        x.rule(3, RISE, 0, 83, 1);
        Check.due("together, ends with it", x.votes(1, 1), -4);
        Check.due("of another class", x.votes(0, 3), 1);
        Check.due("of none", x.votes(0, 2), 0);
        for (int kind : Check.outside(0, 4)) {
            Check.argument("kind " + kind, () -> x.votes(0, kind));
            Check.argument("kind " + kind + " without a look", () -> x.votes(2, kind));
        }
        for (int star : Check.outside(0, 2)) {
            Check.index("star " + star, () -> x.votes(star, 5));
        }
        Check.state("no claim, no look", () -> x.votes(2, 0));
        x.claim(2, 30);
        Check.state("no look", () -> x.votes(2, 0));
        x.split(0);
        Check.state("no look", () -> x.votes(0, 0));
        Check.state("no claim", () -> x.votes(1, 0));
    }

    private static void promise26() {
        LightcurveHouse x = claimed();
        Check.due("without rules", x.kind(0), LightcurveHouse.NONE);
        x.rule(3, PERIOD, 300, 300, -1);
        Check.due("votes below 0", x.kind(0), LightcurveHouse.NONE);
        x.rule(3, PERIOD, 300, 300, 1);
        Check.due("votes 0", x.kind(0), LightcurveHouse.NONE);
        x.rule(4, PERIOD, 300, 300, 1);
        Check.due("votes above 0", x.kind(0), 4);
        x.rule(3, RISE, 83, 83, 1);
        Check.due("of several the lowest", x.kind(1), 3);
        x.rule(4, AMPLITUDE, 0, 170, 1);
        Check.due("the most", x.kind(1), 4);
        x.withdraw(0, true);
        Check.due("a lower one as many", x.kind(1), 3);
        x.rule(0, AMPLITUDE, 0, 169, 9);
        Check.due("a rule that does not hold", x.kind(1), 3);
        Check.state("no claim, no look", () -> x.kind(2));
        for (int star : Check.outside(0, 2)) {
            Check.index("star " + star, () -> x.kind(star));
        }
        x.claim(0, 0);
        Check.state("no claim", () -> x.kind(0));
        x.claim(1, 300);
        Check.due("a claim of another star of it", x.kind(0), 3);
        x.doubt(0, true);
        x.doubt(1, true);
        Check.state("no look", () -> x.kind(0));
    }
}
