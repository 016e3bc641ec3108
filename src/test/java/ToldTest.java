/** Promises 1 to 11: what is told. */
final class ToldTest {
    private static final int MIN = Integer.MIN_VALUE, MAX = Integer.MAX_VALUE;

    private ToldTest() { }

    static void run() {
        Check.test("promise 1: a new object", ToldTest::promise1);
        Check.test("promise 2: comparison", ToldTest::promise2);
        Check.test("promise 3: star", ToldTest::promise3);
        Check.test("promise 4: bias", ToldTest::promise4);
        Check.test("promise 5: clock", ToldTest::promise5);
        Check.test("promise 6: plate", ToldTest::promise6);
        Check.test("promise 7: join", ToldTest::promise7);
        Check.test("promise 8: step", ToldTest::promise8);
        Check.test("promise 8: which exception of step", ToldTest::promise8Wrong);
        Check.test("promise 9: density", ToldTest::promise9);
        Check.test("promise 10: doubt", ToldTest::promise10);
        Check.test("promise 11: minimum", ToldTest::promise11);
        Check.test("terms: late light", ToldTest::late);
        Check.test("terms: 80 looks of both sorts", ToldTest::mostLooks);
    }

    private static void promise1() {
        LightcurveHouse x = new LightcurveHouse();
        Check.index("entry of no star", () -> x.entry(0));
        Check.index("join of no plate", () -> x.join(0, 0));
        Check.index("look of none", () -> x.look(0, 0));
        Check.indexAsked("doubt of none", () -> x.doubt(0, true));
        Check.indexAsked("withdraw of none", () -> x.withdraw(0, true));
        Check.due("entries", x.entries(-1), 0);
        Check.due("nearest", x.nearest(0), LightcurveHouse.NONE);
        Check.due("first star", x.star(0), 0);
        Check.due("first plate", x.plate(0, 0, 1), 0);
        Check.due("first look", x.density(0, 0, 0), 0);
        Check.due("first rule", x.rule(0, 0, 0, 0, 1), 0);
        Check.index("no minimum", () -> x.cycle(0, 100, 0, false));
        Check.due("first minimum", x.minimum(0, 0), 0);
        LightcurveHouse y = new LightcurveHouse();
        Check.due("another object knows nothing of it", y.entries(-1), 0);
    }

    private static void promise2() {
        LightcurveHouse x = new LightcurveHouse();
        for (int i = 0; i < 10; i++) {
            Check.due("light at first", x.comparison(i, i), 1000);
        }
        for (int i = 0; i < 10; i++) {
            Check.due("light before", x.comparison(i, 5), i);
        }
        Check.due("least", x.comparison(3, -200), 5);
        Check.due("most", x.comparison(3, 2000), -200);
        for (int light : Check.outside(-200, 2000)) {
            Check.argument("light " + light, () -> x.comparison(3, light));
        }
        for (int number : Check.outside(0, 9)) {
            Check.index("comparison " + number, () -> x.comparison(number, 0));
            Check.index("both wrong", () -> x.comparison(number, 2001));
        }
        Check.due("unchanged", x.comparison(3, 2000), 2000);
        x.star(0);
        x.step(0, 0, 0, 3, 1, 1, 4);
        Check.due("raw", x.look(0, 0), 1002);
        x.comparison(4, 1000);
        Check.due("raw, second told anew", x.look(0, 0), 1500);
        x.comparison(3, 0);
        Check.due("raw, first told anew", x.look(0, 0), 500);
    }

    private static void promise3() {
        LightcurveHouse x = new LightcurveHouse();
        for (int place : Check.outside(0, 363)) {
            Check.argument("place " + place, () -> x.star(place));
        }
        for (int i = 0; i < 12; i++) {
            Check.due("number", x.star(i == 11 ? 363 : i), i);
        }
        Check.state("a thirteenth", () -> x.star(0));
        Check.argument("a thirteenth, wrong place", () -> x.star(364));
        Check.due("still 12", x.entries(-1), 12);
    }

    private static void promise4() {
        LightcurveHouse x = new LightcurveHouse();
        x.star(0);
        x.step(0, 7, 0, 0, 1, 0, 1);
        x.step(0, 6, 0, 0, 1, 0, 1);
        x.plate(0, 700, 1);
        x.density(0, 0, 0);
        Check.due("at first", x.bias(7, 99), 0);
        Check.due("before", x.bias(7, -99), 99);
        Check.due("light of the watcher's look", x.look(0, 1), 1099);
        Check.due("raw is as it was", x.look(0, 0), 1000);
        Check.due("light of another's", x.look(1, 1), 1000);
        Check.due("light of a plate's", x.look(2, 1), 700);
        for (int bias : Check.outside(-99, 99)) {
            Check.argument("bias " + bias, () -> x.bias(7, bias));
        }
        for (int watcher : Check.outside(0, 7)) {
            Check.index("watcher " + watcher, () -> x.bias(watcher, 100));
        }
        Check.due("unchanged", x.bias(7, 0), -99);
        Check.due("clock is another thing", x.clock(7, 0), 0);
    }

    private static void promise5() {
        LightcurveHouse x = new LightcurveHouse();
        x.star(0);
        x.step(0, 7, 1440 * 182, 0, 1, 0, 1);
        x.step(0, 0, 1440 * 182, 0, 1, 0, 1);
        x.plate(1440 * 182, 700, 1);
        x.density(0, 0, 0);
        Check.due("at first", x.clock(7, 1440), 0);
        Check.due("late as in the minute told", x.look(0, 2), 1440 * 181 - 8);
        Check.due("before", x.clock(7, -1440), 1440);
        Check.due("other way", x.look(0, 2), 1440 * 183 - 8);
        Check.due("another watcher's", x.look(1, 2), 1440 * 182 - 8);
        Check.due("a plate's", x.look(2, 2), 1440 * 182 - 8);
        for (int minutes : Check.outside(-1440, 1440)) {
            Check.argument("clock " + minutes, () -> x.clock(7, minutes));
        }
        for (int watcher : Check.outside(0, 7)) {
            Check.index("watcher " + watcher, () -> x.clock(watcher, 1441));
        }
        Check.due("unchanged", x.clock(7, 0), -1440);
        Check.due("bias is another thing", x.bias(7, 0), 0);
    }

    private static void promise6() {
        LightcurveHouse x = new LightcurveHouse();
        Check.due("least", x.plate(0, -500, 1), 0);
        Check.due("most", x.plate(9999999, 3000, 20), 1);
        for (int minute : Check.outside(0, 9999999)) {
            Check.argument("minute " + minute, () -> x.plate(minute, 0, 1));
        }
        for (int zero : Check.outside(-500, 3000)) {
            Check.argument("zero " + zero, () -> x.plate(0, zero, 1));
        }
        for (int slope : Check.outside(1, 20)) {
            Check.argument("slope " + slope, () -> x.plate(0, 0, slope));
        }
        for (int i = 2; i < 8; i++) {
            Check.due("number", x.plate(i, i, i), i);
        }
        Check.state("a ninth", () -> x.plate(0, 0, 1));
        Check.argument("a ninth, wrong slope", () -> x.plate(0, 0, 0));
        Check.argument("a ninth, wrong minute", () -> x.plate(-1, 0, 1));
        x.star(0);
        x.density(0, 1, 255);
        Check.due("raw", x.look(0, 0), 2490);
        Check.due("time", x.look(0, 2), 9999999 + late(0, 9999999));
    }

    private static void promise7() {
        LightcurveHouse x = new LightcurveHouse();
        x.plate(0, 1500, 7);
        x.plate(0, 1500, 7);
        x.star(0);
        x.density(0, 0, 13);
        x.density(0, 1, 13);
        Check.due("raw", x.look(0, 0), 1491);
        Check.due("before", x.join(0, -500), 1500);
        Check.due("raw with the zero told anew", x.look(0, 0), -509);
        Check.due("raw on the other plate", x.look(1, 0), 1491);
        Check.due("before", x.join(0, 3000), -500);
        for (int zero : Check.outside(-500, 3000)) {
            Check.argument("zero " + zero, () -> x.join(0, zero));
        }
        for (int plate : Check.outside(0, 1)) {
            Check.index("plate " + plate, () -> x.join(plate, 3001));
        }
        Check.due("unchanged", x.join(0, 0), 3000);
    }

    private static void promise8() {
        LightcurveHouse x = new LightcurveHouse();
        x.star(0);
        x.star(0);
        x.comparison(1, 900);
        x.comparison(2, 1103);
        Check.due("number", x.step(1, 0, 0, 1, 3, 4, 2), 0);
        Check.due("number", x.step(0, 7, 9999999, 2, 3, 4, 1), 1);
        Check.due("number", x.step(0, 7, 1, 2, 9, 0, 1), 2);
        Check.due("number", x.step(0, 7, 1, 2, 0, 9, 1), 3);
        Check.due("up: 203 * 3 / 7 = 87", x.look(0, 0), 987);
        Check.due("down: -203 * 3 / 7 = -87, exactly", x.look(1, 0), 1016);
        Check.due("at the second one", x.look(2, 0), 900);
        Check.due("at the first one", x.look(3, 0), 1103);
        Check.due("a step's sort", x.look(0, 5), 0);
        Check.due("its star", x.look(0, 3), 1);
        Check.due("its time", x.look(0, 2), 8);
        Check.due("its time", x.look(1, 2), 9999999 + late(0, 9999999));
        x.comparison(1, 1000);
        Check.due("down: -103 * 3 / 7 = -45, rounded down", x.look(1, 0), 1058);
        Check.due("up: 103 * 3 / 7 = 44, rounded down", x.look(0, 0), 1044);
        x.comparison(2, 999);
        Check.due("up by -1 * 3 / 7 = -1, rounded down", x.look(0, 0), 999);
    }

    private static void promise8Wrong() {
        LightcurveHouse x = new LightcurveHouse();
        x.star(0);
        for (int wrong : Check.outside(0, 0)) {
            Check.index("star " + wrong, () -> x.step(wrong, 0, -1, 0, 1, 1, 0));
        }
        for (int wrong : Check.outside(0, 7)) {
            Check.index("watcher " + wrong, () -> x.step(0, wrong, -1, 0, 1, 1, 1));
        }
        for (int wrong : Check.outside(0, 9)) {
            Check.index("first comparison " + wrong, () -> x.step(0, 0, -1, wrong, 1, 1, 1));
            Check.index("second comparison " + wrong, () -> x.step(0, 0, -1, 1, 1, 1, wrong));
            Check.index("both comparisons " + wrong, () -> x.step(0, 0, 0, wrong, 1, 1, wrong));
            Check.argument("ahead " + wrong, () -> x.step(0, 0, 0, 0, wrong, 5, 1));
            Check.argument("behind " + wrong, () -> x.step(0, 0, 0, 0, 5, wrong, 1));
        }
        for (int wrong : Check.outside(0, 9999999)) {
            Check.argument("minute " + wrong, () -> x.step(0, 0, wrong, 0, 1, 1, 1));
        }
        Check.argument("no way", () -> x.step(0, 0, 0, 0, 0, 0, 1));
        Check.argument("away that ends in none", () -> x.step(0, 0, 0, 0, -1, 1, 1));
        Check.argument("away that ends in none", () -> x.step(0, 0, 0, 0, MIN, MIN, 1));
        Check.argument("the same", () -> x.step(0, 0, 0, 4, 1, 1, 4));
        Check.index("none is there", () -> x.look(0, 0));
        for (int i = 0; i < 80; i++) {
            Check.due("number", x.step(0, 0, i, 0, 1, 1, 1), i);
        }
        Check.state("an 81st", () -> x.step(0, 0, 0, 0, 1, 1, 1));
        Check.argument("an 81st, wrong minute", () -> x.step(0, 0, MAX, 0, 1, 1, 1));
        Check.argument("an 81st, the same", () -> x.step(0, 0, 0, 0, 1, 1, 0));
        Check.index("an 81st, wrong star", () -> x.step(1, 0, MAX, 0, 1, 1, 1));
    }

    private static void promise9() {
        LightcurveHouse x = new LightcurveHouse();
        x.star(0);
        x.star(182);
        x.plate(1440, 1500, 7);
        Check.due("number", x.density(1, 0, 0), 0);
        Check.due("number", x.density(0, 0, 255), 1);
        Check.due("number", x.density(0, 0, 9), 2);
        Check.due("raw", x.look(0, 0), 1500);
        Check.due("1785 / 10", x.look(1, 0), 1500 - 178);
        Check.due("63 / 10", x.look(2, 1), 1494);
        Check.due("star", x.look(0, 3), 1);
        Check.due("sort", x.look(0, 5), 1);
        Check.due("time for the star of that place", x.look(0, 2), 1440 - 7);
        Check.due("time for the star of that place", x.look(1, 2), 1440 + 8);
        for (int density : Check.outside(0, 255)) {
            Check.argument("density " + density, () -> x.density(0, 0, density));
        }
        for (int star : Check.outside(0, 1)) {
            Check.index("star " + star, () -> x.density(star, 0, 256));
        }
        for (int plate : Check.outside(0, 0)) {
            Check.index("plate " + plate, () -> x.density(0, plate, 256));
        }
        Check.due("none of these was told", x.density(0, 0, 0), 3);
    }

    private static void promise10() {
        LightcurveHouse x = new LightcurveHouse();
        x.star(0);
        x.comparison(1, 1100);
        x.step(0, 0, 0, 0, 1, 0, 1);
        x.step(0, 0, 0, 0, 0, 1, 1);
        Check.due("mean of both", x.mean(0), 1050);
        Check.due("not at first", x.doubt(1, false), false);
        Check.due("not yet", x.doubt(1, true), false);
        Check.due("it was", x.doubt(1, true), true);
        Check.due("told of it", x.look(1, 4), 1);
        Check.due("not of the other", x.look(0, 4), 0);
        Check.due("the look stays", x.look(1, 1), 1000);
        Check.due("mean of one", x.mean(0), 1100);
        Check.due("it was", x.doubt(1, false), true);
        Check.due("mean of both", x.mean(0), 1050);
        for (int look : Check.outside(0, 1)) {
            Check.indexAsked("look " + look, () -> x.doubt(look, true));
        }
    }

    private static void promise11() {
        LightcurveHouse x = new LightcurveHouse();
        x.star(0);
        x.star(0);
        for (int minute : Check.outside(0, 9999999)) {
            Check.argument("minute " + minute, () -> x.minimum(0, minute));
        }
        for (int star : Check.outside(0, 1)) {
            Check.index("star " + star, () -> x.minimum(star, -1));
        }
        for (int i = 0; i < 30; i++) {
            Check.due("ahead, of all stars", x.minimum(i % 2, i == 29 ? 9999999 : i), i);
        }
        Check.state("a 31st", () -> x.minimum(0, 0));
        Check.argument("a 31st, wrong minute", () -> x.minimum(0, -1));
        Check.due("the last one", x.cycle(1, 1000000, 14, false), 10);
        Check.index("star 0 has 15", () -> x.cycle(0, 1000000, 15, false));
    }

    private static void late() {
        int[] places = {0, 1, 181, 182, 183, 363};
        LightcurveHouse x = new LightcurveHouse();
        for (int i = 0; i < places.length; i++) {
            x.star(places[i]);
        }
        int[] days = {0, 1, 11, 12, 22, 23, 91, 92, 181, 182, 183, 363, 6944};
        int number = 0;
        for (int i = 0; i < places.length; i++) {
            for (int day : days) {
                int minute = Math.min(9999999, day * 1440 + (day % 2 == 0 ? 0 : 1439));
                x.step(i, 0, minute, 0, 1, 1, 1);
                Check.due("place " + places[i] + ", day " + day, x.look(number, 2) - minute,
                        late(places[i], minute));
                number++;
            }
        }
        Check.due("day 0", x.look(0, 2), 8);
        Check.due("day 11: 16 * 11 / 182 = 0", x.look(2, 2) - (11 * 1440 + 1439), 8);
        Check.due("day 12: 16 * 12 / 182 = 1", x.look(3, 2) - 12 * 1440, 7);
        Check.due("day 91", x.look(6, 2) - (91 * 1440 + 1439), 0);
        Check.due("day 182", x.look(9, 2) - 182 * 1440, -8);
    }

    /** From a walk round the year, a day at a time, and not from the rule of the remainder. */
    static int late(int place, int minute) {
        int away = 0;
        int way = 1;
        int days = minute / 1440 + place;
        for (int i = 0; i < days; i++) {
            away += way;
            if (away == 182 || away == 0) {
                way = -way;
            }
        }
        return 8 - 16 * away / 182;
    }

    private static void mostLooks() {
        LightcurveHouse x = new LightcurveHouse();
        x.star(0);
        x.plate(5, 5, 5);
        for (int i = 0; i < 80; i++) {
            Check.due("number", i % 2 == 0 ? x.density(0, 0, i) : x.step(0, 0, i, 0, 1, 1, 1), i);
            x.doubt(i, true);
        }
        Check.state("an 81st density", () -> x.density(0, 0, 0));
        Check.argument("an 81st density, wrong", () -> x.density(0, 0, -1));
        Check.index("an 81st density, no plate", () -> x.density(0, 1, -1));
        Check.state("an 81st step", () -> x.step(0, 0, 0, 0, 1, 1, 1));
        Check.due("the last one", x.look(79, 2), 87);
    }
}
