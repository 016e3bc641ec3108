import java.util.List;

/** The boundary cases of the section 'Periods' and of the promises 17 to 20. */
final class BoundaryPeriodsTest {
    /** Looks 0 and 1 beside each other in the order, the last and the first one too, and with one look between them. */
    private static final int BESIDE = 140, APART = 180;
    /** Three looks of one light: each trial has the string 0, so that all trials but the best one are aliases. */
    private static final List<Scenes.CallOf> ALIKE = List.of(x -> x.star(91), x -> x.star(91),
            x -> x.step(0, 0, 5, 0, 1, 1, 1), x -> x.step(0, 0, 50, 0, 1, 1, 1), x -> x.step(0, 0, 500, 0, 1, 1, 1));

    private BoundaryPeriodsTest() { }

    static void run() {
        periods();
        strings();
        trials();
        promise17();
        promise18();
        promise19();
        promise19Refused();
        promise20();
        promise20Refused();
    }

    private static void periods() {
        Sentence.term("Periods are 30 to 1000000 minutes.", () -> {
            List<Refusals.CallWith> calls = List.of((x, v) -> x.string(0, v), (x, v) -> x.together(0, 1, v),
                    (x, v) -> x.period(0, v, 1000000, 999970), (x, v) -> x.period(0, 30, v, 999970),
                    (x, v) -> x.aliases(0, v, 1000000, 999970, 0), (x, v) -> x.aliases(0, 30, v, 999970, 0),
                    (x, v) -> x.claim(0, v), (x, v) -> x.cycle(0, v, 1, true), (x, v) -> x.lost(0, v));
            for (int i = 0; i < calls.size(); i++) {
                Refusals.CallWith call = calls.get(i);
                Refusals.taken(Scenes.FEW, "call " + i + ", period", 30, call);
                Refusals.taken(Scenes.FEW, "call " + i + ", period", 1000000, call);
                Refusals.argument(Scenes.FEW, "call " + i + ", period 29", x -> call.answer(x, 29));
                Refusals.argument(Scenes.FEW, "call " + i + ", period 1000001", x -> call.answer(x, 1000001));
            }
        });
    }

    private static void strings() {
        Sentence.term("The STRING of some LOOKS for a period P: they are put in order by the remainders of their TIMES by P "
                + "(0 to less than P, also of one below 0)", BoundaryPeriodsTest::remainders);
        Sentence.term(", of several by their TIMES, of several by their numbers;", BoundaryPeriodsTest::severalAlike);
        Sentence.term("it is the sum of by how much the light of each and of the next one differ, that of the last one and the "
                + "first one with them;", () -> {
            Check.due("of one", row(500), 0);
            Check.due("of two, there and back", row(500, 501), 2);
            Check.due("of two, down first", row(501, 500), 2);
            Check.due("of two alike", row(500, 500), 0);
            Check.due("of three", row(500, 700, 600), 400);
            Check.due("of three, the last one far from the first one", row(500, 600, 2000), 3000);
            Check.due("below 0 too", row(-200, 0, -100, 2000), 200 + 100 + 2100 + 2200);
            Check.due("of ten", row(0, 100, 3, 100, 3, 100, 3, 100, 3, 100), 100 + 8 * 97 + 100);
        });
        Sentence.term("0 without LOOKS.", () -> {
            LightcurveHouse x = Scenes.plain(2);
            Check.due("never told", x.string(0, 30), 0);
            Scenes.see(x, 0, 0, 0);
            Check.due("told of another star", x.string(1, 1000000), 0);
            x.doubt(0, true);
            Check.due("all doubted", x.string(0, 30), 0);
        });
    }

    /** The string of looks of these lights, one behind the other. */
    private static int row(int... lights) {
        LightcurveHouse x = Scenes.plain(1);
        for (int i = 0; i < lights.length; i++) {
            Scenes.see(x, 0, i, i, lights[i]);
        }
        return x.string(0, 100);
    }

    /** The string of looks with the lights 0, 10, 30 and 70 at these times: it tells whether the first two are beside each other. */
    private static int round(int period, int... times) {
        LightcurveHouse x = Scenes.plain(1);
        x.clock(0, 1000);
        int[] lights = {0, 10, 30, 70};
        for (int i = 0; i < times.length; i++) {
            Scenes.see(x, 0, times[i] + 1000, i, lights[i]);
            Check.due("time", x.look(i, 2), times[i]);
        }
        return x.string(0, period);
    }

    private static void remainders() {
        Check.due("0 1 2 3", round(100, 0, 1, 2, 3), BESIDE);
        Check.due("0 2 1 3", round(100, 0, 2, 1, 3), APART);
        Check.due("0 99, by the end and the beginning", round(100, 0, 99, 1, 98), BESIDE);
        Check.due("99 is behind 98", round(100, 0, 98, 1, 99), APART);
        Check.due("100 is 0, ahead of 1", round(100, 1, 100, 2, 0), BESIDE);
        Check.due("101 is 1, ahead of 2", round(100, 0, 2, 101, 3), APART);
        Check.due("199 is 99, behind 98", round(100, 97, 199, 98, 0), APART);
        Check.due("-1 is 99, behind 98", round(100, 97, -1, 98, 0), APART);
        Check.due("-1 is 99, ahead of the later 99", round(100, 98, -1, 99, 0), BESIDE);
        Check.due("-99 is 1, behind 0", round(100, 50, -99, 0, 60), BESIDE);
        Check.due("-100 is 0, ahead of the later 0", round(100, 50, -100, 0, 99), APART);
        Check.due("-101 is 99, behind 98", round(100, 98, -101, 99, 50), BESIDE);
        Check.due("by 30, 30 is 0", round(30, 1, 30, 2, 0), BESIDE);
        Check.due("by 31, 30 is 30", round(31, 1, 30, 2, 0), APART);
    }

    private static void severalAlike() {
        Check.due("by times, not by numbers", round(100, 200, 0, 100, 300), APART);
        Check.due("by times below 0, not by numbers", round(100, -200, 0, -100, 100), APART);
        Check.due("two of one remainder, the earlier one first", round(100, 100, 50, 0, 60), BESIDE);
        Check.due("two of one remainder, the one below 0 first", round(100, 50, 0, -100, 60), BESIDE);
        Check.due("two of one time, the lower number first", round(100, 50, 0, 50, 60), BESIDE);
        Check.due("all of one time", round(100, 7, 7, 7, 7), BESIDE);
        LightcurveHouse x = Scenes.plain(1);
        for (int comparison : new int[] {0, 3, 1, 7}) {
            Scenes.see(x, 0, 50, comparison, 10 * comparison);
        }
        Check.due("one time, by numbers: 0 30 10 70", x.string(0, 100), 180);
        LightcurveHouse y = Scenes.plain(1);
        Scenes.see(y, 0, 107, 0, 0);
        Scenes.see(y, 0, 7, 3, 30);
        Scenes.see(y, 0, 107, 1, 10);
        Scenes.see(y, 0, 7, 7, 70);
        Check.due("by times, then by numbers: 30 70 0 10", y.string(0, 100), 40 + 70 + 10 + 20);
    }

    private static void trials() {
        Sentence.term("The TRIALS from one period to another one by a step are that period, and so on, each by the step more, none "
                + "above the other one; 200 at most.", BoundaryPeriodsTest::howManyTrials);
        Sentence.term("The best TRIAL for an ENTRY is that with the least STRING of its LOOKS, of several the shortest.", () -> {
            LightcurveHouse x = Scenes.four(0, 25, 50, 12);
            Check.due("by 90: 0 25 12 50", x.string(0, 90), 126);
            Check.due("by 100: 0 12 25 50", x.string(0, 100), 100);
            Check.due("by 110: 0 12 25 50", x.string(0, 110), 100);
            Check.due("by 1000000: 0 25 50 12", x.string(0, 1000000), 100);
            Check.due("the last one", x.period(0, 90, 100, 10), 100);
            Check.due("the one in the midst, of two", x.period(0, 90, 110, 10), 100);
            Check.due("the first one, of two", x.period(0, 100, 110, 10), 100);
            Check.due("the first one, of the shortest and the longest", x.period(0, 100, 1000000, 999900), 100);
            Check.due("the longest of all", x.period(0, 90, 1000000, 999910), 1000000);
            LightcurveHouse y = Scenes.four(0, 12, 50, 25);
            Check.due("by 90: 0 12 25 50", y.string(0, 90), 100);
            Check.due("by 100: 0 25 12 50", y.string(0, 100), 126);
            Check.due("the first one", y.period(0, 90, 100, 10), 90);
        });
        Sentence.term("An ALIAS for a percent is a TRIAL that is not the best one, 100 times the STRING of which is at most (100 and "
                + "the percent) times that of the best one.", BoundaryPeriodsTest::howManyAliases);
    }

    private static void howManyTrials() {
        int[][] rows = {{30, 30, 1, 1}, {30, 31, 1, 2}, {30, 31, 2, 1}, {30, 32, 2, 2}, {30, 33, 2, 2}, {30, 229, 1, 200},
            {30, 428, 2, 200}, {30, 429, 2, 200}, {30, 1000000, 5000, 200}, {5000, 1000000, 5000, 200}, {30, 1000000, 5025, 199},
            {30, 1000000, 999970, 2}, {30, 1000000, 999971, 1}, {30, 999999, 999970, 1}, {1000000, 1000000, 1, 1},
            {999801, 1000000, 1, 200}, {999999, 1000000, 1000000, 1}, {999999, 1000000, 1, 2}};
        LightcurveHouse x = Scenes.house(ALIKE);
        for (int[] row : rows) {
            String what = "from " + row[0] + " to " + row[1] + " by " + row[2];
            Check.due(what, x.aliases(0, row[0], row[1], row[2], 0), row[3] - 1);
            Check.due(what + ", the first one", x.period(0, row[0], row[1], row[2]), row[0]);
        }
        int[][] many = {{30, 230, 1}, {30, 430, 2}, {30, 1000000, 4999}, {5000, 1000000, 4975}, {999800, 1000000, 1},
            {30, 1000000, 1}};
        for (int[] row : many) {
            Check.argument("more than 200", () -> x.aliases(0, row[0], row[1], row[2], 0));
            Check.argument("more than 200", () -> x.period(0, row[0], row[1], row[2]));
        }
    }

    private static void howManyAliases() {
        int[][] rows = {{37, 12, 50, 1}, {37, 12, 49, 0}, {38, 12, 50, 0}, {25, 12, 26, 1}, {25, 12, 25, 0}, {25, 12, 50, 1},
            {13, 12, 2, 1}, {13, 12, 1, 0}, {13, 12, 0, 0}, {12, 12, 0, 1}};
        for (int[] row : rows) {
            LightcurveHouse x = Scenes.four(0, row[0], 50, row[1]);
            Check.due("best", x.string(0, 100), 100);
            String what = "of a string " + x.string(0, 90) + ", percent " + row[2];
            Check.due(what, x.aliases(0, 90, 100, 10, row[2]), row[3]);
            Check.due(what + ", and twice the best string", x.aliases(0, 90, 110, 10, row[2]), row[3] + 1);
        }
        LightcurveHouse y = Scenes.four(0, 40, 70, 21);
        Check.due("of a string 178 to 140, 127 percent are 177.8", y.aliases(0, 90, 100, 10, 27), 0);
        Check.due("of a string 178 to 140, 128 percent are 179.2", y.aliases(0, 90, 100, 10, 28), 1);
        LightcurveHouse x = Scenes.house(ALIKE);
        Check.due("all of string 0", x.aliases(0, 30, 229, 1, 0), 199);
        Check.due("all of string 0", x.aliases(0, 30, 229, 1, 50), 199);
        Check.due("the best one is none", x.aliases(0, 30, 30, 1, 50), 0);
    }

    private static void promise17() {
        Sentence.test(17, "Returns the STRING of the LOOKS of the ENTRY of a STAR.", () -> {
            LightcurveHouse x = Scenes.plain(12);
            Scenes.see(x, 0, 0, 0, 0);
            Scenes.see(x, 11, 1, 1, 10);
            Scenes.see(x, 5, 2, 2, 500);
            Check.due("by itself", x.string(11, 100), 0);
            x.merge(11, 0);
            Check.due("of both", x.string(11, 100), 20);
            Check.due("by the other star", x.string(0, 100), 20);
            Check.due("not of the entry", x.string(5, 100), 0);
            x.merge(5, 11);
            Check.due("of the three", x.string(0, 100), 1000);
            x.split(0);
            Check.due("of the others", x.string(11, 100), 980);
        });
        Sentence.test(17, "star: a STAR", () -> {
            Refusals.indexes(Scenes.FEW, "star", 0, 3, (x, n) -> x.string(n, 100));
            Refusals.indexes(Scenes.FULL, "star", 0, 11, (x, n) -> x.string(n, 100));
        });
        Sentence.test(17, "period: 30 to 1000000", () -> {
            Refusals.arguments(Scenes.FEW, "period", 30, 1000000, (x, v) -> x.string(0, v));
            Check.due("by 30, 30 is 0, far ahead of 29", round(30, 29, 30, 28, 0), APART);
            LightcurveHouse x = Scenes.plain(1);
            int[] minutes = {1, 999997, 2, 0};
            int[] lights = {0, 10, 30, 70};
            for (int i = 0; i < 4; i++) {
                Scenes.see(x, 0, minutes[i], i, lights[i]);
            }
            Check.due("time of the second one", x.look(1, 2), 1000000);
            Check.due("by 1000000 its remainder is 0, ahead of 1", x.string(0, 1000000), BESIDE);
            Check.due("by 999998 its remainder is 2, behind 1", x.string(0, 999998), APART);
        });
        Sentence.test(17, "Returns the STRING.", () -> {
            LightcurveHouse x = Scenes.plain(1);
            x.plate(5, 3000, 1);
            x.plate(5, -500, 20);
            for (int i = 0; i < 80; i++) {
                x.density(0, i % 2, 255 * (i % 2));
            }
            Check.due("the greatest of all", x.string(0, 30), 80 * 4010);
            Check.due("the greatest of all", x.string(0, 1000000), 80 * 4010);
            Check.due("an alias to it", x.aliases(0, 100, 101, 1, 50), 1);
        });
        Sentence.test(17, "Throws IndexOutOfBoundsException if there is no such STAR", () -> {
            Refusals.noSuch(Scenes.EMPTY, "star", 0, -1, (x, n) -> x.string(n, 30));
            Refusals.noSuch(Scenes.FEW, "star", 0, 3, (x, n) -> x.string(n, 1000000));
            Refusals.noSuch(Scenes.FULL, "star, and more", 0, 11, (x, n) -> x.string(n, 29));
        });
        Sentence.test(17, "Throws IllegalArgumentException if period is out of its range", () -> {
            Refusals.outOfRange(Scenes.FEW, "period", 30, 1000000, (x, v) -> x.string(0, v));
            Refusals.outOfRange(Scenes.FEW, "period without looks", 30, 1000000, (x, v) -> x.string(2, v));
            Refusals.argument(Scenes.FULL, "period 0", x -> x.string(0, 0));
        });
    }

    private static void promise18() {
        Sentence.test(18, "Returns the STRING of the LOOKS of the ENTRIES of two STARS, as if they were one; of one ENTRY, if they "
                + "are one.", () -> {
            LightcurveHouse x = Scenes.plain(4);
            int[] star = {0, 1, 0, 1};
            for (int i = 0; i < 4; i++) {
                Scenes.see(x, star[i], 50, i, new int[] {0, 30, 10, 70}[i]);
            }
            Check.due("as one, by numbers: 0 30 10 70", x.together(0, 1, 100), 180);
            Check.due("the other way", x.together(1, 0, 100), 180);
            Check.due("with one that has none", x.together(0, 3, 100), 20);
            Check.due("with one that has none", x.together(3, 1, 100), 80);
            Check.due("two that have none", x.together(2, 3, 100), 0);
            x.merge(3, 1);
            Check.due("by any star of the entries", x.together(3, 0, 100), 180);
            Check.due("of one entry", x.together(3, 1, 100), 80);
            x.merge(0, 1);
            Check.due("of one entry", x.together(3, 0, 100), 180);
            Check.due("and of another one", x.together(2, 0, 100), 180);
        });
        Sentence.test(18, "Nothing changes.", () -> {
            List<Scenes.CallOf> calls = List.of(x -> x.together(0, 3, 30), x -> x.together(2, 1, 100), x -> x.together(3, 3, 1000000));
            Refusals.changesNothing(Scenes.FEW, "together", calls);
            Refusals.changesNothing(Scenes.FULL, "together", calls);
        });
        Sentence.test(18, "star: a STAR", () -> {
            Refusals.indexes(Scenes.FEW, "star", 0, 3, (x, n) -> x.together(n, 1, 100));
            Refusals.indexes(Scenes.FULL, "star", 0, 11, (x, n) -> x.together(n, 0, 100));
        });
        Sentence.test(18, "other: a STAR, perhaps the same", () -> {
            Refusals.indexes(Scenes.FEW, "other", 0, 3, (x, n) -> x.together(1, n, 100));
            Refusals.indexes(Scenes.FULL, "other", 0, 11, (x, n) -> x.together(0, n, 100));
            LightcurveHouse x = Scenes.house(Scenes.FULL);
            for (int i = 0; i < 12; i++) {
                Check.due("the same, " + i, x.together(i, i, 100), x.string(i, 100));
            }
            Check.due("looks told once, not twice", Scenes.four(0, 37, 50, 12).together(0, 0, 90), 150);
        });
        Sentence.test(18, "period: 30 to 1000000", () -> {
            Refusals.arguments(Scenes.FEW, "period", 30, 1000000, (x, v) -> x.together(0, 1, v));
            LightcurveHouse x = Scenes.plain(2);
            int[] minutes = {1, 30, 2, 0};
            for (int i = 0; i < 4; i++) {
                Scenes.see(x, i % 2, minutes[i], i, new int[] {0, 10, 30, 70}[i]);
            }
            Check.due("by 30, 30 is 0", x.together(0, 1, 30), BESIDE);
            Check.due("by 1000000 it is not", x.together(0, 1, 1000000), APART);
        });
        Sentence.test(18, "Returns the STRING.", () -> {
            LightcurveHouse x = Scenes.plain(2);
            x.plate(5, 3000, 1);
            x.plate(5, -500, 20);
            for (int i = 0; i < 80; i++) {
                x.density(i % 2, i % 2, 255 * (i % 2));
            }
            Check.due("of each, all alike", x.string(0, 30) + x.string(1, 30), 0);
            Check.due("the greatest of all", x.together(1, 0, 30), 80 * 4010);
        });
        Sentence.test(18, "Throws IndexOutOfBoundsException if there is no such STAR, of either", () -> {
            Refusals.noSuch(Scenes.EMPTY, "both", 0, -1, (x, n) -> x.together(n, n, 100));
            Refusals.noSuch(Scenes.FEW, "star", 0, 3, (x, n) -> x.together(n, 0, 100));
            Refusals.noSuch(Scenes.FEW, "other", 0, 3, (x, n) -> x.together(0, n, 100));
            Refusals.noSuch(Scenes.FULL, "star, and more", 0, 11, (x, n) -> x.together(n, 0, 1000001));
            Refusals.noSuch(Scenes.FULL, "other, and more", 0, 11, (x, n) -> x.together(0, n, 29));
        });
        Sentence.test(18, "Throws IllegalArgumentException if period is out of its range", () -> {
            Refusals.outOfRange(Scenes.FEW, "period", 30, 1000000, (x, v) -> x.together(0, 1, v));
            Refusals.outOfRange(Scenes.FEW, "period without looks", 30, 1000000, (x, v) -> x.together(2, 2, v));
            Refusals.argument(Scenes.FULL, "period 0", x -> x.together(0, 0, 0));
        });
    }

    private static void promise19() {
        Sentence.test(19, "Returns the period of the best TRIAL for the ENTRY of a STAR.", () -> {
            LightcurveHouse x = Scenes.four(0, 25, 50, 12);
            x.merge(1, 0);
            Check.due("by its star", x.period(0, 90, 100, 10), 100);
            Check.due("by another star of the entry", x.period(1, 90, 100, 10), 100);
            x.split(0);
            Check.due("by its star alone", x.period(0, 90, 100, 10), 100);
            Check.state("not of the entry any more", () -> x.period(1, 90, 100, 10));
        });
        Sentence.test(19, "star: a STAR", () -> {
            List<Scenes.CallOf> one = Scenes.with(ALIKE, x -> x.merge(0, 1));
            Refusals.indexes(one, "star", 0, 1, (x, n) -> x.period(n, 30, 30, 1));
            Refusals.noSuch(Scenes.FULL, "star", 0, 11, (x, n) -> x.period(n, 30, 30, 1));
        });
        Sentence.test(19, "from: 30 to 1000000", () -> {
            Refusals.arguments(Scenes.FEW, "from", 30, 1000000, (x, v) -> x.period(0, v, 1000000, 1000000));
            LightcurveHouse x = Scenes.house(Scenes.FEW);
            Check.due("the shortest", x.period(0, 30, 30, 1), 30);
            Check.due("the longest", x.period(0, 1000000, 1000000, 1), 1000000);
        });
        Sentence.test(19, "to: from to 1000000", () -> {
            for (int from : new int[] {30, 31, 500, 999999, 1000000}) {
                Refusals.arguments(ALIKE, "from " + from + ", to", from, 1000000, (x, v) -> x.period(0, from, v, 1000000));
            }
        });
        Sentence.test(19, "step: 1 to 1000000", () -> {
            Refusals.arguments(Scenes.FEW, "step", 1, 1000000, (x, v) -> x.period(0, 100, 299, v));
            LightcurveHouse x = Scenes.four(0, 25, 50, 12);
            Check.due("the least: 135 is behind 40 up to 95", x.period(0, 90, 100, 1), 96);
            Check.due("another one", x.period(0, 90, 100, 5), 100);
            Check.due("the greatest", x.period(0, 90, 1000000, 1000000), 90);
        });
        Sentence.test(19, "Returns the period.", () -> {
            Check.due("the first one, of 200", bestOf200(551).period(0, 301, 500, 1), 301);
            Check.due("the last one, of 200", bestOf200(539).period(0, 301, 500, 1), 500);
            Check.due("of the last two, of 200, the shorter one", bestOf200(538).period(0, 301, 500, 1), 499);
            Check.due("all alike, of 200", Scenes.house(ALIKE).period(0, 30, 1000000, 5000), 30);
        });
    }

    /** From 301 to 500, the last look is between the others by all but the last or the first period: string 126, there 100. */
    private static LightcurveHouse bestOf200(int last) {
        LightcurveHouse x = Scenes.plain(1);
        int[] minutes = {0, 40, 250, last};
        for (int i = 0; i < 4; i++) {
            Scenes.see(x, 0, minutes[i], i, new int[] {0, 25, 50, 12}[i]);
        }
        return x;
    }

    private static void promise19Refused() {
        Sentence.test(19, "Throws IndexOutOfBoundsException if there is no such STAR", () -> {
            Refusals.noSuch(Scenes.EMPTY, "star", 0, -1, (x, n) -> x.period(n, 30, 30, 1));
            Refusals.noSuch(Scenes.FEW, "star", 0, 3, (x, n) -> x.period(n, 30, 30, 1));
            Refusals.noSuch(Scenes.FULL, "star, and more", 0, 11, (x, n) -> x.period(n, 29, 28, 0));
        });
        Sentence.test(19, "Throws IllegalArgumentException if from, to or step is out of its range, or there are more than 200 TRIALS",
                () -> {
            Refusals.outOfRange(Scenes.FEW, "from", 30, 1000000, (x, v) -> x.period(0, v, 1000000, 1000000));
            Refusals.outOfRange(Scenes.FEW, "from and to", 30, 1000000, (x, v) -> x.period(0, v, v, 1));
            Refusals.outOfRange(Scenes.FEW, "to", 30, 1000000, (x, v) -> x.period(0, 30, v, 1000000));
            Refusals.outOfRange(Scenes.FEW, "step", 1, 1000000, (x, v) -> x.period(0, 30, 30, v));
            Refusals.outOfRange(Scenes.FEW, "step without looks", 1, 1000000, (x, v) -> x.period(2, 30, 30, v));
            Refusals.taken(Scenes.FEW, "200 trials, to", 229, (x, v) -> x.period(0, 30, v, 1));
            Refusals.argument(Scenes.FEW, "201 trials", x -> x.period(0, 30, 230, 1));
            Refusals.argument(Scenes.FULL, "201 trials", x -> x.period(0, 999800, 1000000, 1));
            Refusals.argument(Scenes.FULL, "201 trials without looks", x -> x.period(11, 30, 430, 2));
            Refusals.argument(Scenes.FULL, "very many trials", x -> x.period(0, 30, 1000000, 1));
        });
        Sentence.test(19, "Throws IllegalStateException if the ENTRY has fewer than 3 LOOKS", () -> {
            Refusals.state(ALIKE, "none", x -> x.period(1, 30, 30, 1));
            Refusals.state(ALIKE.subList(0, 3), "one", x -> x.period(0, 30, 30, 1));
            Refusals.state(ALIKE.subList(0, 4), "two", x -> x.period(0, 30, 30, 1));
            Refusals.taken(ALIKE, "three, from", 30, (x, v) -> x.period(0, v, 30, 1));
            Refusals.state(Scenes.with(ALIKE, x -> Scenes.bit(x.doubt(2, true))), "two and a doubted one",
                    x -> x.period(0, 30, 229, 1));
            List<Scenes.CallOf> apart = Scenes.with(ALIKE.subList(0, 4), x -> x.step(1, 0, 0, 0, 1, 1, 1));
            Refusals.state(apart, "two of three", x -> x.period(0, 30, 30, 1));
            Refusals.taken(Scenes.with(apart, x -> x.merge(0, 1)), "three of two stars, from", 30, (x, v) -> x.period(1, v, 30, 1));
            Refusals.state(Scenes.FULL, "none", x -> x.period(11, 1000000, 1000000, 1000000));
        });
    }

    private static void promise20() {
        Sentence.test(20, "Returns how many ALIASES there are.", () -> {
            LightcurveHouse x = Scenes.four(0, 25, 50, 12);
            x.merge(1, 0);
            Check.due("one of three", x.aliases(0, 90, 110, 10, 25), 1);
            Check.due("two of three", x.aliases(0, 90, 110, 10, 26), 2);
            Check.due("by another star of the entry", x.aliases(1, 90, 110, 10, 26), 2);
        });
        Sentence.test(20, "star: a STAR", () -> {
            List<Scenes.CallOf> one = Scenes.with(ALIKE, x -> x.merge(0, 1));
            Refusals.indexes(one, "star", 0, 1, (x, n) -> x.aliases(n, 30, 30, 1, 0));
            Refusals.noSuch(Scenes.FULL, "star", 0, 11, (x, n) -> x.aliases(n, 30, 30, 1, 0));
        });
        Sentence.test(20, "from: 30 to 1000000",
                () -> Refusals.arguments(Scenes.FEW, "from", 30, 1000000, (x, v) -> x.aliases(0, v, 1000000, 1000000, 0)));
        Sentence.test(20, "to: from to 1000000", () -> {
            for (int from : new int[] {30, 31, 500, 999999, 1000000}) {
                Refusals.arguments(ALIKE, "from " + from + ", to", from, 1000000,
                        (x, v) -> x.aliases(0, from, v, 1000000, 50));
            }
        });
        Sentence.test(20, "step: 1 to 1000000", () -> {
            Refusals.arguments(Scenes.FEW, "step", 1, 1000000, (x, v) -> x.aliases(0, 100, 299, v, 0));
            LightcurveHouse x = Scenes.house(ALIKE);
            Check.due("the least", x.aliases(0, 100, 299, 1, 0), 199);
            Check.due("the greatest", x.aliases(0, 30, 1000000, 1000000, 0), 0);
        });
        Sentence.test(20, "percent: 0 to 50", () -> {
            Refusals.arguments(Scenes.FEW, "percent", 0, 50, (x, v) -> x.aliases(0, 30, 30, 1, v));
            LightcurveHouse x = Scenes.four(0, 37, 50, 12);
            Check.due("the greatest", x.aliases(0, 90, 110, 10, 50), 2);
            Check.due("one less", x.aliases(0, 90, 110, 10, 49), 1);
            Check.due("the least", x.aliases(0, 90, 110, 10, 0), 1);
            Check.due("the least, none", x.aliases(0, 90, 100, 10, 0), 0);
        });
        Sentence.test(20, "Returns how many.", () -> {
            LightcurveHouse x = Scenes.house(ALIKE);
            Check.due("none", x.aliases(0, 30, 30, 1, 50), 0);
            Check.due("one", x.aliases(0, 30, 31, 1, 50), 1);
            Check.due("as many as can be", x.aliases(0, 30, 229, 1, 0), 199);
            for (int last : new int[] {539, 551}) {
                Check.due("all but the best one", bestOf200(last).aliases(0, 301, 500, 1, 26), 199);
                Check.due("none but the best one", bestOf200(last).aliases(0, 301, 500, 1, 25), 0);
            }
        });
    }

    private static void promise20Refused() {
        Sentence.test(20, "Throws IndexOutOfBoundsException if there is no such STAR", () -> {
            Refusals.noSuch(Scenes.EMPTY, "star", 0, -1, (x, n) -> x.aliases(n, 30, 30, 1, 0));
            Refusals.noSuch(Scenes.FEW, "star", 0, 3, (x, n) -> x.aliases(n, 30, 30, 1, 0));
            Refusals.noSuch(Scenes.FULL, "star, and more", 0, 11, (x, n) -> x.aliases(n, 29, 28, 0, 51));
        });
        Sentence.test(20, "Throws IllegalArgumentException if from, to, step or percent is out of its range, or there are more than "
                + "200 TRIALS", () -> {
            Refusals.outOfRange(Scenes.FEW, "from", 30, 1000000, (x, v) -> x.aliases(0, v, 1000000, 1000000, 0));
            Refusals.outOfRange(Scenes.FEW, "from and to", 30, 1000000, (x, v) -> x.aliases(0, v, v, 1, 0));
            Refusals.outOfRange(Scenes.FEW, "to", 30, 1000000, (x, v) -> x.aliases(0, 30, v, 1000000, 0));
            Refusals.outOfRange(Scenes.FEW, "step", 1, 1000000, (x, v) -> x.aliases(0, 30, 30, v, 0));
            Refusals.outOfRange(Scenes.FEW, "percent", 0, 50, (x, v) -> x.aliases(0, 30, 30, 1, v));
            Refusals.outOfRange(Scenes.FEW, "percent without looks", 0, 50, (x, v) -> x.aliases(2, 30, 30, 1, v));
            Refusals.taken(Scenes.FEW, "200 trials, to", 229, (x, v) -> x.aliases(0, 30, v, 1, 0));
            Refusals.argument(Scenes.FEW, "201 trials", x -> x.aliases(0, 30, 230, 1, 0));
            Refusals.argument(Scenes.FULL, "201 trials", x -> x.aliases(0, 999800, 1000000, 1, 50));
            Refusals.argument(Scenes.FULL, "201 trials without looks", x -> x.aliases(11, 30, 430, 2, 0));
            Refusals.argument(Scenes.FULL, "very many trials", x -> x.aliases(0, 30, 1000000, 1, 0));
        });
        Sentence.test(20, "Throws IllegalStateException if the ENTRY has fewer than 3 LOOKS", () -> {
            Refusals.state(ALIKE, "none", x -> x.aliases(1, 30, 30, 1, 0));
            Refusals.state(ALIKE.subList(0, 3), "one", x -> x.aliases(0, 30, 30, 1, 0));
            Refusals.state(ALIKE.subList(0, 4), "two", x -> x.aliases(0, 30, 30, 1, 0));
            Refusals.taken(ALIKE, "three, from", 30, (x, v) -> x.aliases(0, v, 30, 1, 0));
            Refusals.state(Scenes.with(ALIKE, x -> Scenes.bit(x.doubt(2, true))), "two and a doubted one",
                    x -> x.aliases(0, 30, 229, 1, 50));
            List<Scenes.CallOf> apart = Scenes.with(ALIKE.subList(0, 4), x -> x.step(1, 0, 0, 0, 1, 1, 1));
            Refusals.state(apart, "two of three", x -> x.aliases(0, 30, 30, 1, 0));
            Refusals.taken(Scenes.with(apart, x -> x.merge(0, 1)), "three of two stars, from", 30,
                    (x, v) -> x.aliases(1, v, 30, 1, 0));
            Refusals.state(Scenes.FULL, "none", x -> x.aliases(11, 1000000, 1000000, 1000000, 50));
        });
    }
}
