import java.util.ArrayList;
import java.util.List;

/** The boundary cases of the section 'Terms': its head, stars and entries, looks. */
final class BoundaryTermsTest {
    private BoundaryTermsTest() { }

    static void run() {
        head();
        exceptions();
        starsAndEntries();
        days();
        lightsAndNumbers();
        steps();
        densities();
        doubts();
        constants();
    }

    private static void head() {
        Sentence.term("An object is used for at most 512 calls after it has been made; what later calls answer is free.",
                BoundaryTermsTest::theLastOf512Calls);
        Sentence.term("All is reckoned, each time, from what is told by then.", BoundaryTermsTest::toldByThen);
        Sentence.term("Divisions are rounded down, also below 0.", BoundaryTermsTest::roundedDown);
    }

    private static void theLastOf512Calls() {
        LightcurveHouse x = Scenes.house(Scenes.FULL);
        for (int i = Scenes.FULL.size(); i < 510; i++) {
            Check.due("light told anew", x.comparison(3, i), i == Scenes.FULL.size() ? 1011 : i - 1);
        }
        Check.due("the 511th call", x.look(79, 3), 2);
        Check.due("the 512th call", x.comparison(3, 5), 509);
        LightcurveHouse y = Scenes.plain(1);
        for (int i = 1; i < 511; i++) {
            Check.index("refused", () -> y.comparison(10, 0));
        }
        Check.due("the 512th call, behind 510 that were refused", y.entries(-1), 1);
    }

    private static void toldByThen() {
        LightcurveHouse x = Scenes.four(1000, 1030, 1010, 1000);
        x.claim(0, 100);
        x.rule(3, Scenes.AMPLITUDE, 30, 30, 1);
        x.minimum(0, 0);
        Check.due("string", x.string(0, 1000000), 60);
        Check.due("mean", x.mean(0), 1010);
        Check.due("class", x.kind(0), 3);
        x.comparison(1, 1031);
        Check.due("string, by a light told anew", x.string(0, 1000000), 62);
        Check.due("amplitude", x.feature(0, Scenes.AMPLITUDE), 31);
        Check.due("class", x.kind(0), Scenes.NONE);
        x.comparison(1, 1030);
        Check.due("class, by the light before", x.kind(0), 3);
        x.bias(0, 40);
        Check.due("mean, by a bias told anew", x.mean(0), 970);
        x.bias(0, 0);
        Check.due("mean, by the bias before", x.mean(0), 1010);
        Check.due("rise: 0 - 40 by 100", x.feature(0, Scenes.RISE), 60);
        x.claim(0, 80);
        Check.due("rise, by a claim told anew: 40 of 80", x.feature(0, Scenes.RISE), 50);
    }

    private static void roundedDown() {
        int[][] rows = {{-1, 1, 1, -1}, {1, 1, 1, 0}, {-2, 1, 1, -1}, {2, 1, 1, 1}, {-3, 1, 1, -2}, {3, 1, 1, 1},
            {-1, 1, 8, -1}, {-9, 1, 8, -1}, {-10, 1, 8, -2}, {8, 1, 8, 0}, {9, 1, 8, 1}, {-1, 9, 1, -1}, {-200, 2, 1, -134}};
        for (int[] row : rows) {
            LightcurveHouse x = Scenes.plain(1);
            x.comparison(0, 0);
            x.comparison(1, row[0]);
            x.step(0, 0, 0, 0, row[1], row[2], 1);
            Check.due("raw: " + row[0] + " * " + row[1] + " / " + (row[1] + row[2]), x.look(0, 0), row[3]);
        }
        int[][] means = {{-1, 0, 0, -1}, {-3, 0, 0, -1}, {-4, 0, 0, -2}, {-2, 0, 0, -1}, {1, 1, 0, 0}, {1, 1, 1, 1}, {2, 2, 1, 1}};
        for (int[] row : means) {
            LightcurveHouse x = Scenes.plain(1);
            for (int i = 0; i < 3; i++) {
                Scenes.see(x, 0, i, i, row[i]);
            }
            Check.due("mean of " + row[0] + ", " + row[1] + ", " + row[2], x.mean(0), row[3]);
        }
    }

    private static void exceptions() {
        Sentence.term("IndexOutOfBoundsException: there is no such STAR, COMPARISON, watcher, PLATE, LOOK, RULE, or place.",
                BoundaryTermsTest::noSuch);
        Sentence.term("IllegalArgumentException: another argument is out of its range.", BoundaryTermsTest::outOfRange);
        Sentence.term("IllegalStateException: as the method says.", BoundaryTermsTest::asTheMethodSays);
        Sentence.term("If several apply, the one that the throws clause names first is thrown.", BoundaryTermsTest::severalApply);
        Sentence.term("A call that throws an exception changes nothing.", BoundaryTermsTest::changesNothing);
    }

    private static void noSuch() {
        noSuch(WrongCalls.OF_STAR, "star", 4);
        noSuch(WrongCalls.OF_COMPARISON, "comparison", 10);
        noSuch(WrongCalls.OF_WATCHER, "watcher", 8);
        noSuch(WrongCalls.OF_PLATE, "plate", 2);
        noSuch(WrongCalls.OF_LOOK, "look", 8);
        noSuch(WrongCalls.OF_RULE, "rule", 3);
        Refusals.index(Scenes.FEW, "place below -1", x -> x.entries(-2));
        Refusals.index(Scenes.FEW, "place below 0", x -> x.nearest(-1));
        Refusals.noSuch(Scenes.FEW, "place", 0, 2, (x, n) -> x.cycle(0, 100, n, true));
    }

    private static void noSuch(List<Refusals.CallWith> calls, String what, int count) {
        for (int i = 0; i < calls.size(); i++) {
            Refusals.noSuch(Scenes.FEW, what + ", call " + i + ", ", 0, count - 1, calls.get(i));
        }
    }

    private static void outOfRange() {
        for (WrongCalls.Argument each : WrongCalls.ARGUMENTS) {
            Refusals.arguments(Scenes.FEW, each.what(), each.least(), each.most(), each.call());
        }
    }

    private static void asTheMethodSays() {
        for (int i = 0; i < WrongCalls.STATE_ALONE.size(); i++) {
            Refusals.state(Scenes.FULL, "call " + i, WrongCalls.STATE_ALONE.get(i));
        }
    }

    private static void severalApply() {
        for (int i = 0; i < WrongCalls.INDEX_FIRST.size(); i++) {
            Refusals.index(Scenes.FULL, "call " + i, WrongCalls.INDEX_FIRST.get(i));
        }
        for (int i = 0; i < WrongCalls.ARGUMENT_FIRST.size(); i++) {
            Refusals.argument(Scenes.FULL, "call " + i, WrongCalls.ARGUMENT_FIRST.get(i));
        }
    }

    /** All of them in a row, and not one by one, as elsewhere. */
    private static void changesNothing() {
        Refusals.changesNothing(Scenes.EMPTY, "all in a row, of an empty house", WrongCalls.INDEX_FIRST);
        List<Scenes.CallOf> all = new ArrayList<>(WrongCalls.INDEX_FIRST);
        all.addAll(WrongCalls.ARGUMENT_FIRST);
        all.addAll(WrongCalls.STATE_ALONE);
        Refusals.changesNothing(Scenes.FULL, "all in a row, of a full house", all);
        List<Scenes.CallOf> few = new ArrayList<>(WrongCalls.INDEX_FIRST);
        for (WrongCalls.Argument each : WrongCalls.ARGUMENTS) {
            few.add(x -> each.call().answer(x, each.least() - 1));
            few.add(x -> each.call().answer(x, each.most() + 1));
        }
        Refusals.changesNothing(Scenes.FEW, "all in a row", few);
    }

    private static void starsAndEntries() {
        Sentence.term("STARS are numbered from 0, at most 12; each has a PLACE, 0 to 363.", BoundaryTermsTest::mostStars);
        Sentence.term("An ENTRY is some STARS, each STAR is in one; at first it is one by itself.", () -> {
            LightcurveHouse x = new LightcurveHouse();
            Check.due("no entries without stars", x.entries(-1), 0);
            for (int i = 0; i < 12; i++) {
                x.star(0);
                Check.due("as many as stars", x.entries(-1), i + 1);
                Check.due("by itself", x.entry(i), i);
                int star = i;
                Check.state("by itself", () -> x.split(star));
            }
        });
        Sentence.term("The number of an ENTRY is that of its lowest STAR.", () -> {
            LightcurveHouse x = Scenes.plain(12);
            Check.due("of the last two", x.merge(11, 10), 10);
            Check.due("with the first one", x.merge(0, 11), 0);
            Check.due("of the last", x.entry(11), 0);
            Check.due("without the lowest", x.split(0), 10);
            Check.due("of the last", x.entry(11), 10);
            Check.due("of the first", x.entry(0), 0);
            Check.due("of the last by itself", x.split(10), 11);
            Check.due("of the last", x.entry(11), 11);
        });
        Sentence.term("To MERGE two ENTRIES makes one of all their STARS; "
                + "to SPLIT a STAR off makes it an ENTRY by itself, the others stay one.", BoundaryTermsTest::mergedAndSplit);
        Sentence.term("Of an ENTRY are the LOOKS and MINIMA of all its STARS.", BoundaryTermsTest::ofAllItsStars);
    }

    private static void mostStars() {
        LightcurveHouse x = new LightcurveHouse();
        for (int i = 0; i < 12; i++) {
            int none = i;
            Check.index("not yet", () -> x.entry(none));
            Check.due("number", x.star(i % 2 * 363), i);
        }
        Check.state("a thirteenth", () -> x.star(0));
        Check.index("a thirteenth", () -> x.entry(12));
        Check.due("the first one", x.entry(0), 0);
        Check.due("the last one", x.entry(11), 11);
        Scenes.see(x, 0, 12 * 1440, 0);
        Scenes.see(x, 11, 12 * 1440, 0);
        Check.due("place 0: day 12 of the round", x.look(0, 2), 12 * 1440 + 7);
        Check.due("place 363: day 11 of the round", x.look(1, 2), 12 * 1440 + 8);
        Check.argument("a place below", () -> new LightcurveHouse().star(-1));
        Check.argument("a place above", () -> new LightcurveHouse().star(364));
    }

    private static void mergedAndSplit() {
        LightcurveHouse x = Scenes.plain(12);
        for (int i = 11; i > 0; i--) {
            Check.due("one more", x.merge(i, i - 1), i - 1);
        }
        Check.due("one of all", x.entries(-1), 1);
        Check.due("number", x.entries(0), 0);
        for (int i = 0; i < 11; i++) {
            Check.due("the others", x.split(i), i + 1);
            Check.due("by itself", x.entry(i), i);
            Check.due("the last stays with the others", x.entry(11), i + 1);
        }
        Check.due("all by themselves", x.entries(-1), 12);
        for (int i = 0; i < 12; i += 2) {
            x.merge(i + 1, i);
        }
        x.merge(1, 10);
        Check.due("the whole of both", x.entry(11), 0);
        Check.due("others are not of it", x.entry(3), 2);
        Check.due("one in the midst", x.split(10), 0);
        Check.due("the others stay one", x.entry(11), 0);
        Check.due("the last", x.split(11), 0);
        Check.due("the others stay one", x.entry(1), 0);
    }

    private static void ofAllItsStars() {
        LightcurveHouse x = Scenes.plain(12);
        for (int i = 0; i < 10; i++) {
            Scenes.see(x, i + 1, i, i, 10 * i);
            x.minimum(i + 1, 100 * i);
        }
        for (int i = 11; i > 0; i--) {
            x.merge(i, i - 1);
        }
        Check.due("mean of all, by one without", x.mean(11), 45);
        Check.due("mean of all, by one without", x.mean(0), 45);
        Check.due("the last minimum", x.cycle(0, 100, 9, false), 9);
        Check.index("no more", () -> x.cycle(0, 100, 10, false));
        x.split(10);
        Check.due("mean of the others", x.mean(0), 40);
        Check.index("no more", () -> x.cycle(0, 100, 9, false));
        x.split(0);
        Check.state("it has none", () -> x.mean(0));
        Check.index("it has none", () -> x.cycle(0, 100, 0, false));
    }

    private static void days() {
        Sentence.term("Days have 1440 minutes; the day of a minute is it divided by 1440.", () -> {
            LightcurveHouse x = Scenes.stars(11, 0, 336);
            int[][] rows = {{0, 0, 8}, {0, 1439, 8}, {0, 1440, 7}, {1, 12 * 1440 - 1, 8}, {1, 12 * 1440, 7},
                {1, 9999999, 6}, {1, 6944 * 1440, 6}, {1, 6944 * 1440 - 1, 6}, {2, 6944 * 1440, 8}, {2, 6939 * 1440, 8}};
            for (int i = 0; i < rows.length; i++) {
                Scenes.see(x, rows[i][0], rows[i][1], 0);
                Check.due("star " + rows[i][0] + ", minute " + rows[i][1], x.look(i, 2) - rows[i][1], rows[i][2]);
            }
            LightcurveHouse y = Scenes.stars(359);
            Scenes.see(y, 0, 6944 * 1440 - 1, 0);
            Scenes.see(y, 0, 6944 * 1440, 0);
            Scenes.see(y, 0, 9999999, 0);
            Check.due("day 6943: 22 of the round", y.look(0, 2) - 6944 * 1440 + 1, 7);
            Check.due("day 6944: 23 of the round", y.look(1, 2) - 6944 * 1440, 6);
            Check.due("the last minute of all, of day 6944", y.look(2, 2) - 9999999, 6);
        });
        Sentence.term("In a minute the light of a STAR is LATE by so many minutes: with k, the remainder of (its day and the "
                + "PLACE of the STAR, together) by 364, and m, the lesser one of k and 364 less k: 8 less (16 times m, "
                + "divided by 182).", BoundaryTermsTest::lateRoundTheYear);
    }

    /** The first m of each late, from 8 down to -8, and the last one of the one before. */
    private static void lateRoundTheYear() {
        int[] first = {0, 12, 23, 35, 46, 57, 69, 80, 91, 103, 114, 126, 137, 148, 160, 171, 182};
        for (int i = 0; i < first.length; i++) {
            int m = first[i];
            late(m, 8 - i);
            late(364 - m, 8 - i);
            if (m > 0) {
                late(m - 1, 9 - i);
                late(364 - m + 1, 9 - i);
            }
        }
        late(728, 8);
        late(728 + 12, 7);
        late(728 - 12, 7);
        late(364 + 11, 8);
    }

    /** By the place alone, by the day alone, and by both together; the day and the place go round. */
    private static void late(int k, int due) {
        LightcurveHouse x = Scenes.stars(k % 364, 0, 363, 182);
        x.plate((k + 546) * 1440, 0, 1);
        Scenes.see(x, 0, 0, 0);
        Scenes.see(x, 1, k * 1440, 0);
        Scenes.see(x, 2, (k + 1) * 1440, 0);
        x.density(3, 0, 0);
        x.minimum(1, 0);
        x.minimum(1, k * 1440);
        Check.due("late by the place, k " + k, x.look(0, 2), due);
        Check.due("late by the day, k " + k, x.look(1, 2) - k * 1440, due);
        Check.due("late by both, k " + k, x.look(2, 2) - (k + 1) * 1440, due);
        Check.due("late of a plate, k " + k, x.look(3, 2) - (k + 546) * 1440, due);
        int later = x.cycle(1, 1000000, 1, false) * 1000000 + x.cycle(1, 1000000, 1, true);
        Check.due("late of a minimum, k " + k, later - k * 1440 + 8, due);
    }

    private static void lightsAndNumbers() {
        Sentence.term("LIGHT is a whole number, the greater the fainter.", () -> {
            LightcurveHouse x = Scenes.plain(1);
            Scenes.see(x, 0, 10, 0, -200);
            Scenes.see(x, 0, 20, 1, 2000);
            Scenes.see(x, 0, 30, 2, 0);
            x.claim(0, 100);
            Check.due("from the faintest to the brightest: 10 - 20 by 100", x.feature(0, Scenes.RISE), 90);
            Check.due("amplitude", x.feature(0, Scenes.AMPLITUDE), 2200);
        });
        Sentence.term("There are the COMPARISONS 0 to 9, each with a LIGHT, 1000 at first.", () -> {
            LightcurveHouse x = Scenes.plain(1);
            for (int i = 0; i < 10; i++) {
                Scenes.see(x, 0, 0, i);
                Check.due("raw by comparison " + i, x.look(i, 0), 1000);
                Check.due("at first", x.comparison(i, i), 1000);
                Check.due("raw by it", x.look(i, 0), i);
            }
            Check.index("no comparison below", () -> x.comparison(-1, 0));
            Check.index("no comparison above", () -> x.comparison(10, 0));
        });
        Sentence.term("There are the watchers 0 to 7, each with a BIAS and a CLOCK, both 0 at first.", () -> {
            LightcurveHouse x = Scenes.plain(1);
            for (int i = 0; i < 8; i++) {
                x.step(0, i, 100, 0, 1, 1, 1);
                Check.due("light by watcher " + i, x.look(i, 1), 1000);
                Check.due("time by watcher " + i, x.look(i, 2), 100);
                Check.due("bias at first", x.bias(i, i + 1), 0);
                Check.due("clock at first", x.clock(i, -i - 1), 0);
                Check.due("light", x.look(i, 1), 999 - i);
                Check.due("time", x.look(i, 2), 101 + i);
            }
            Check.index("no watcher below", () -> x.bias(-1, 0));
            Check.index("no watcher above", () -> x.clock(8, 0));
        });
        Sentence.term("PLATES are numbered from 0, at most 8, each of a minute, with a ZERO and a SLOPE.", () -> {
            LightcurveHouse x = Scenes.plain(1);
            for (int i = 0; i < 8; i++) {
                Check.due("number", x.plate(10 * i, 100 * i, i + 1), i);
            }
            Check.state("a ninth", () -> x.plate(0, 0, 1));
            Check.index("a ninth", () -> x.density(0, 8, 0));
            for (int i = 0; i < 8; i++) {
                Check.due("look", x.density(0, i, 10), i);
                Check.due("of a minute", x.look(i, 2), 10 * i);
                Check.due("with a zero and a slope", x.look(i, 0), 100 * i - i - 1);
            }
        });
        Sentence.term("LOOKS are numbered from 0, at most 80, of two sorts.", BoundaryTermsTest::mostLooks);
    }

    private static void mostLooks() {
        LightcurveHouse x = Scenes.plain(2);
        x.plate(5, 5, 5);
        for (int i = 0; i < 80; i++) {
            int none = i;
            Check.index("not yet", () -> x.look(none, 0));
            Check.due("number", i % 2 == 0 ? x.density(0, 0, i) : x.step(1, 0, i, 0, 1, 1, 1), i);
            Check.due("sort", x.look(i, 5), 1 - i % 2);
        }
        Check.state("an 81st, a density", () -> x.density(0, 0, 0));
        Check.state("an 81st, a step", () -> x.step(0, 0, 0, 0, 1, 1, 1));
        Check.index("an 81st", () -> x.look(80, 0));
        Check.due("the first one", x.look(0, 0), 5);
        Check.due("the last one", x.look(79, 2), 79);
        for (int i = 0; i < 80; i++) {
            x.doubt(i, true);
        }
        Check.state("an 81st, though all are doubted", () -> x.step(0, 0, 0, 0, 1, 1, 1));
    }

    private static void steps() {
        Sentence.term("A STEP is of a STAR, by a watcher, in a minute, between two COMPARISONS, the first and the second one, "
                + "A steps behind the first one and B steps ahead of the second one: its RAW is the LIGHT of the first one, "
                + "and (what the LIGHT of the second one is more, perhaps below 0, times A) divided by A and B, together;",
                BoundaryTermsTest::raw);
        Sentence.term("its light is RAW less the BIAS of the watcher;", () -> {
            LightcurveHouse x = Scenes.plain(1);
            x.step(0, 7, 0, 0, 1, 1, 1);
            for (int bias : new int[] {-99, -1, 0, 1, 99}) {
                x.bias(7, bias);
                Check.due("bias " + bias, x.look(0, 1), 1000 - bias);
                Check.due("raw, bias " + bias, x.look(0, 0), 1000);
            }
            x.comparison(0, -200);
            x.comparison(1, -200);
            Check.due("the least light of a step", x.look(0, 1), -299);
        });
        Sentence.term("its TIME is the minute, less the CLOCK of the watcher, and more by what the light of that STAR is LATE in "
                + "that minute as it was told (perhaps below 0).", BoundaryTermsTest::timeOfStep);
    }

    private static void raw() {
        int[][] rows = {{500, 900, 0, 1, 500}, {500, 900, 0, 9, 500}, {500, 900, 1, 0, 900}, {500, 900, 9, 0, 900},
            {500, 900, 9, 9, 700}, {500, 900, 1, 9, 540}, {500, 900, 9, 1, 860}, {900, 500, 1, 9, 860}, {900, 500, 0, 1, 900},
            {900, 500, 1, 0, 500}, {500, 500, 4, 5, 500}, {-200, 2000, 9, 1, 1780}, {2000, -200, 9, 1, 20}, {0, 100, 1, 2, 33},
            {100, 0, 1, 2, 66}, {-200, -199, 9, 1, -200}, {-199, -200, 1, 9, -200}};
        for (int[] row : rows) {
            LightcurveHouse x = Scenes.plain(1);
            x.comparison(8, row[0]);
            x.comparison(3, row[1]);
            x.step(0, 0, 0, 8, row[2], row[3], 3);
            Check.due("from " + row[0] + " to " + row[1] + ", " + row[2] + " and " + row[3], x.look(0, 0), row[4]);
        }
    }

    private static void timeOfStep() {
        LightcurveHouse x = Scenes.stars(0, 182);
        int[][] rows = {{0, 0, 1440, -1432}, {1, 0, 1440, -1448}, {1, 0, 0, -8}, {1, 7, 0, -1}, {1, 8, 0, 0}, {0, 0, 8, 0},
            {0, 0, 9, -1}, {0, 9999999, -1440, 9999999 + 1440 + 6}, {0, 17280, 1, 17286}, {0, 17279, -1, 17288},
            {0, 17280, 0, 17287}, {0, 17279, 0, 17287}, {0, 17280, 1440, 15847}, {0, 17279, -1440, 18727}};
        for (int i = 0; i < rows.length; i++) {
            x.clock(5, rows[i][2]);
            x.step(rows[i][0], 5, rows[i][1], 0, 1, 1, 1);
            Check.due("minute " + rows[i][1] + ", clock " + rows[i][2], x.look(i, 2), rows[i][3]);
        }
    }

    private static void densities() {
        Sentence.term("A DENSITY is of a STAR, on a PLATE: its RAW is the ZERO of the PLATE, less (it times the SLOPE, divided by "
                + "10); its light is RAW; its TIME is the minute of the PLATE, and more by what the light of that STAR is LATE "
                + "in it.", () -> {
            int[][] rows = {{1500, 0, 20, 1500}, {1500, 9, 1, 1500}, {1500, 10, 1, 1499}, {1500, 19, 1, 1499}, {1500, 255, 1, 1475},
                {3000, 0, 1, 3000}, {-500, 255, 20, -1010}, {0, 1, 9, 0}, {0, 1, 10, -1}, {0, 3, 7, -2}, {0, 1, 20, -2}};
            for (int[] row : rows) {
                LightcurveHouse x = Scenes.stars(0, 182, 91);
                x.bias(0, 50);
                x.clock(0, 500);
                x.plate(0, row[0], row[2]);
                x.plate(9999999, row[0], row[2]);
                for (int i = 0; i < 3; i++) {
                    x.density(i, 0, row[1]);
                }
                x.density(0, 1, row[1]);
                Check.due("raw of density " + row[1] + " by slope " + row[2], x.look(0, 0), row[3]);
                Check.due("light", x.look(0, 1), row[3]);
                Check.due("light of the last minute's", x.look(3, 1), row[3]);
                Check.due("late", x.look(0, 2), 8);
                Check.due("early, below 0", x.look(1, 2), -8);
                Check.due("neither", x.look(2, 2), 0);
                Check.due("of the last minute", x.look(3, 2), 10000005);
            }
        });
    }

    private static void doubts() {
        Sentence.term("A LOOK can be DOUBTED, or not any more.", () -> {
            LightcurveHouse x = Scenes.house(Scenes.FULL);
            for (int look : new int[] {0, 78}) {
                Check.due("not at first", x.look(look, 4), 0);
                Check.due("it was not", x.doubt(look, true), false);
                Check.due("it is", x.look(look, 4), 1);
                Check.due("it was", x.doubt(look, false), true);
                Check.due("not any more", x.look(look, 4), 0);
                Check.due("it was not", x.doubt(look, false), false);
            }
        });
        Sentence.term("Where LOOKS of an ENTRY are spoken of further on, those that are DOUBTED are left out.",
                BoundaryTermsTest::allDoubted);
    }

    private static void allDoubted() {
        LightcurveHouse x = Scenes.four(0, 37, 50, 12);
        x.claim(0, 100);
        x.rule(0, Scenes.AMPLITUDE, 0, 1000000, 1);
        x.doubt(3, true);
        Check.due("three are left", x.period(0, 90, 90, 1), 90);
        Check.due("three are left", x.aliases(0, 90, 90, 1, 0), 0);
        Check.due("string: 0 37 50", x.string(0, 90), 100);
        x.doubt(2, true);
        Check.state("two are left", () -> x.period(0, 90, 90, 1));
        Check.state("two are left", () -> x.aliases(0, 90, 90, 1, 0));
        Check.due("amplitude of two", x.feature(0, Scenes.AMPLITUDE), 37);
        x.doubt(1, true);
        Check.due("amplitude of one", x.feature(0, Scenes.AMPLITUDE), 0);
        Check.due("mean of one", x.mean(0), 0);
        x.doubt(0, true);
        Check.due("string of none", x.string(0, 90), 0);
        Check.due("string of none", x.together(0, 1, 90), 0);
        Check.state("mean of none", () -> x.mean(0));
        Check.state("modulus of none", () -> x.modulus(0));
        Check.state("feature of none", () -> x.feature(0, Scenes.PERIOD));
        Check.state("votes of none", () -> x.votes(0, 0));
        Check.state("class of none", () -> x.kind(0));
        Check.due("no modulus", x.nearest(0), Scenes.NONE);
        x.doubt(2, false);
        Check.due("mean of one that is not doubted any more", x.mean(0), 50);
        Check.due("class", x.kind(0), 0);
        Check.due("nearest", x.nearest(0), 0);
    }

    private static void constants() {
        Sentence.term("The constants: NONE = -1: None.", () -> Check.due("NONE", LightcurveHouse.NONE, -1));
        Sentence.term("AMPLITUDE = 0, PERIOD = 1, RISE = 2: Features.", () -> {
            Check.due("AMPLITUDE", LightcurveHouse.AMPLITUDE, 0);
            Check.due("PERIOD", LightcurveHouse.PERIOD, 1);
            Check.due("RISE", LightcurveHouse.RISE, 2);
        });
    }
}
