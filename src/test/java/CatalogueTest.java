/** Promises 12 to 15: the catalogue. */
final class CatalogueTest {
    private CatalogueTest() { }

    static void run() {
        Check.test("promise 12: merge", CatalogueTest::promise12);
        Check.test("promise 13: split", CatalogueTest::promise13);
        Check.test("promise 14: entry", CatalogueTest::promise14);
        Check.test("promise 15: entries", CatalogueTest::promise15);
        Check.test("terms: no look is lost", CatalogueTest::noLookIsLost);
    }

    private static LightcurveHouse withStars(int count) {
        LightcurveHouse x = new LightcurveHouse();
        for (int i = 0; i < count; i++) {
            x.star(i);
        }
        return x;
    }

    private static void promise12() {
        LightcurveHouse x = withStars(6);
        Check.due("higher with lower", x.merge(3, 1), 1);
        Check.due("lower with higher", x.merge(4, 5), 4);
        Check.due("by stars that are not the lowest", x.merge(5, 3), 1);
        for (int star : new int[] {1, 3, 4, 5}) {
            Check.due("entry of " + star, x.entry(star), 1);
        }
        Check.due("not merged", x.entry(0), 0);
        Check.due("not merged", x.entry(2), 2);
        Check.state("of one entry", () -> x.merge(5, 1));
        Check.state("one star", () -> x.merge(0, 0));
        for (int star : Check.outside(0, 5)) {
            Check.index("star " + star, () -> x.merge(star, 0));
            Check.index("other " + star, () -> x.merge(0, star));
            Check.index("both " + star, () -> x.merge(star, star));
        }
        Check.due("unchanged", x.entries(-1), 3);
        Check.due("with the lowest", x.merge(5, 0), 0);
        Check.due("all have it", x.entry(3), 0);
    }

    private static void promise13() {
        LightcurveHouse x = withStars(5);
        x.merge(1, 2);
        x.merge(2, 4);
        Check.due("one in the midst", x.split(2), 1);
        Check.due("it has its own", x.entry(2), 2);
        Check.due("the others stay", x.entry(4), 1);
        x.merge(4, 2);
        Check.due("the lowest", x.split(1), 2);
        Check.due("it has its own", x.entry(1), 1);
        Check.due("the others stay one", x.entry(4), 2);
        Check.due("the others stay one", x.entry(2), 2);
        Check.state("by itself", () -> x.split(1));
        Check.state("never merged", () -> x.split(0));
        for (int star : Check.outside(0, 4)) {
            Check.index("star " + star, () -> x.split(star));
        }
        Check.due("the last two", x.split(4), 2);
        Check.state("by itself then", () -> x.split(2));
        Check.due("all by themselves", x.entries(-1), 5);
        Check.due("merged again", x.merge(4, 1), 1);
    }

    private static void promise14() {
        LightcurveHouse x = withStars(12);
        for (int i = 0; i < 12; i++) {
            Check.due("at first", x.entry(i), i);
        }
        for (int star : Check.outside(0, 11)) {
            Check.index("star " + star, () -> x.entry(star));
        }
        x.merge(11, 10);
        Check.due("the lowest", x.entry(11), 10);
    }

    private static void promise15() {
        LightcurveHouse x = withStars(5);
        x.merge(0, 3);
        Check.due("how many", x.entries(-1), 4);
        int[] order = {0, 1, 2, 4, -1, -1};
        for (int i = 0; i < order.length; i++) {
            Check.due("at " + i, x.entries(i), order[i]);
        }
        Check.due("far", x.entries(Integer.MAX_VALUE), LightcurveHouse.NONE);
        Check.index("below -1", () -> x.entries(-2));
        Check.index("far below -1", () -> x.entries(Integer.MIN_VALUE));
        x.split(0);
        Check.due("the others have a number of their own", x.entries(3), 3);
    }

    private static void noLookIsLost() {
        LightcurveHouse x = withStars(3);
        x.comparison(1, 1100);
        x.step(0, 0, 0, 0, 1, 0, 1);
        x.step(2, 0, 0, 0, 0, 1, 1);
        x.minimum(2, 100);
        x.merge(0, 2);
        Check.due("looks of both", x.mean(2), 1050);
        Check.due("the look's star", x.look(1, 3), 2);
        Check.due("minima of all", x.cycle(0, 30, 0, false), 0);
        x.split(0);
        Check.due("its own looks", x.mean(0), 1100);
        Check.due("its own looks", x.mean(2), 1000);
        Check.index("the minimum went with its star", () -> x.cycle(0, 30, 0, false));
    }
}
