import java.util.List;

/** The boundary cases of the sections 'Minima' and 'The ladder', and of the promises 27 to 33. */
final class BoundaryLadderTest {
    private BoundaryLadderTest() { }

    static void run() {
        minima();
        offsets();
        ladder();
        promise27();
        promise28();
        promise29();
        promise30();
        promise31();
        promise32();
        promise33();
    }

    /** Minima of one star at these minutes, which are their times. */
    private static LightcurveHouse minimaAt(int... minutes) {
        LightcurveHouse x = Scenes.plain(2);
        for (int minute : minutes) {
            x.minimum(0, minute);
        }
        return x;
    }

    private static void due(LightcurveHouse x, int period, int place, int cycle, int offset) {
        Check.due("cycle by " + period + " at " + place, x.cycle(0, period, place, false), cycle);
        Check.due("offset by " + period + " at " + place, x.cycle(0, period, place, true), offset);
    }

    private static void minima() {
        Sentence.term("A MINIMUM is of a STAR, in a minute; at most 30 are told.", () -> {
            LightcurveHouse x = Scenes.plain(3);
            for (int i = 0; i < 30; i++) {
                Check.due("told ahead", x.minimum(i % 2, i), i);
            }
            Check.state("a 31st", () -> x.minimum(0, 0));
            Check.state("a 31st, of a star without one", () -> x.minimum(2, 0));
            Check.due("the last one of star 0", x.cycle(0, 100, 14, true), 28);
            Check.due("the last one of star 1", x.cycle(1, 100, 14, true), 28);
            x.merge(0, 1);
            Check.due("the last one of both", x.cycle(0, 100, 29, true), 29);
            Check.index("no more", () -> x.cycle(0, 100, 30, true));
        });
        Sentence.term("Its TIME is the minute, and more by what the light of that STAR is LATE in it.", () -> {
            LightcurveHouse x = Scenes.stars(0, 182, 91);
            x.clock(0, 500);
            x.minimum(0, 0);
            x.minimum(1, 0);
            x.minimum(2, 0);
            x.minimum(0, 17279);
            x.minimum(0, 17280);
            x.merge(0, 1);
            x.merge(1, 2);
            due(x, 1000000, 1, 0, 8);
            due(x, 1000000, 2, 0, 16);
            due(x, 1000000, 3, 0, 17279 + 8 + 8);
            due(x, 1000000, 4, 0, 17280 + 7 + 8);
        });
        Sentence.term("MINIMA of an ENTRY are put in order by TIMES, of several as they were told.", () -> {
            LightcurveHouse x = minimaAt(500, 100, 300, 300, 9999, 0);
            int[] due = {0, 100, 300, 300, 500, 9999};
            for (int i = 0; i < due.length; i++) {
                due(x, 1000000, i, 0, due[i]);
            }
            LightcurveHouse y = Scenes.stars(0, 182);
            y.minimum(0, 500);
            y.minimum(1, 515);
            y.merge(0, 1);
            due(y, 100, 1, 0, 1);
            y.minimum(1, 516);
            due(y, 100, 1, 0, 1);
            due(y, 100, 2, 0, 1);
            y.minimum(1, 1);
            Check.due("-7 is the first one, 508 the last one", y.cycle(0, 1000, 3, true), 515 - 1000);
        });
    }

    private static void offsets() {
        Sentence.term("For a period P, and with D, how much later the TIME of one is than that of the first one, its CYCLE is (2 times "
                + "D, and P, together) divided by (2 times P), and its OFFSET is D less its CYCLE times P, perhaps below 0.", () -> {
            int[][] rows = {{100, 0, 0, 0}, {100, 49, 0, 49}, {100, 50, 1, -50}, {100, 51, 1, -49}, {100, 99, 1, -1}, {100, 100, 1, 0},
                {100, 149, 1, 49}, {100, 150, 2, -50}, {30, 14, 0, 14}, {30, 15, 1, -15}, {31, 15, 0, 15}, {31, 16, 1, -15},
                {31, 46, 1, 15}, {31, 47, 2, -15}, {1000000, 1, 0, 1}, {30, 17279, 576, -1}, {17278, 17279, 1, 1}};
            for (int[] row : rows) {
                due(minimaAt(0, row[1]), row[0], 1, row[2], row[3]);
                due(minimaAt(row[1], 0), row[0], 0, 0, 0);
            }
            due(minimaAt(0, 9999999), 30, 1, 333333, 7);
            due(minimaAt(0, 499997), 1000000, 1, 0, 499999);
            due(minimaAt(0, 499998), 1000000, 1, 1, -500000);
        });
        Sentence.term("Between two MINIMA, one right behind the other, CYCLES may be LOST, if 4 times what their OFFSETS differ is above "
                + "P.", () -> {
            int[][] rows = {{100, 25, 0}, {100, 26, 1}, {100, 74, 1}, {100, 75, 0}, {100, 50, 1}, {30, 7, 0}, {30, 8, 1}, {30, 22, 1},
                {30, 23, 0}, {101, 25, 0}, {101, 26, 1}, {102, 25, 0}, {102, 26, 1}, {103, 25, 0}, {103, 26, 1}, {104, 26, 0},
                {104, 27, 1}, {1000000, 10000, 0}};
            for (int[] row : rows) {
                Check.due("by " + row[0] + ", " + row[1] + " later", minimaAt(0, row[1]).lost(0, row[0]), row[2]);
            }
            Check.due("250000 later", minimaAt(0, 250000).lost(0, 1000000), 0);
            Check.due("250001 later", minimaAt(0, 250001).lost(0, 1000000), 1);
            Check.due("offsets 0 20 40: each right behind", minimaAt(0, 120, 240).lost(0, 100), 0);
            Check.due("offsets 0 49 -50: they go round", minimaAt(0, 149, 250).lost(0, 100), 2);
            Check.due("offsets 0 20 49 -50", minimaAt(0, 120, 149, 250).lost(0, 100), 2);
            Check.due("offsets 0 25 -1 25: in their order, not as told", minimaAt(325, 0, 299, 125).lost(0, 100), 2);
        });
    }

    private static void ladder() {
        Sentence.term("A STAR has dust, 0 at first; that of an ENTRY is the dust of its lowest STAR.", () -> {
            LightcurveHouse x = Scenes.plain(12);
            Scenes.see(x, 11, 0, 0, 1000);
            x.claim(11, 30);
            Check.due("none at first", x.modulus(11), 1300);
            for (int i = 1; i < 12; i++) {
                Check.due("none at first", x.dust(i, 10 * i), 0);
            }
            Check.due("its own", x.modulus(11), 1190);
            for (int i = 11; i > 0; i--) {
                x.merge(i, i - 1);
                Check.due("that of the lowest, though 0", x.modulus(11), 1300 - 10 * (i - 1));
            }
            x.split(0);
            Check.due("that of the lowest then", x.modulus(11), 1290);
        });
        Sentence.term("The MEAN of an ENTRY with a LOOK is the sum of the light of its LOOKS, divided by how many they are.",
                BoundaryLadderTest::means);
        Sentence.term("The MODULUS of an ENTRY with a CLAIM and a LOOK is the MEAN, less its dust, less the zero of the ladder (0 at "
                + "first), and 75 more for each time that the CLAIM can be halved, rounded down, until it is 1.", () -> {
            int[] claims = {30, 31, 32, 33, 63, 64, 65, 127, 128, 524287, 524288, 524289, 999999, 1000000};
            int[] times = {4, 4, 5, 5, 5, 6, 6, 6, 7, 18, 19, 19, 19, 19};
            for (int i = 0; i < claims.length; i++) {
                LightcurveHouse x = Scenes.plain(1);
                Scenes.see(x, 0, 0, 0, 500);
                x.claim(0, claims[i]);
                Check.due("claim " + claims[i], x.modulus(0), 500 + 75 * times[i]);
                x.dust(0, 500);
                Check.due("less the most dust", x.modulus(0), 75 * times[i]);
                Check.due("zero at first", x.zero(1000), 0);
                Check.due("less the greatest zero, below 0 perhaps", x.modulus(0), 75 * times[i] - 1000);
                x.zero(-1000);
                Check.due("less the least zero", x.modulus(0), 75 * times[i] + 1000);
            }
        });
    }

    private static void means() {
        int[][] rows = {{7}, {-200}, {7, 8}, {7, 7, 8}, {7, 8, 8}, {-1, 0}, {-1, 0, 0}, {-2, -1}, {0, 0, 0}, {-1, 1, 1}, {-1, -1, 1}};
        int[] due = {7, -200, 7, 7, 7, -1, -1, -2, 0, 0, -1};
        for (int i = 0; i < rows.length; i++) {
            LightcurveHouse x = Scenes.plain(1);
            for (int j = 0; j < rows[i].length; j++) {
                Scenes.see(x, 0, j, j, rows[i][j]);
            }
            Check.due("mean of row " + i, x.mean(0), due[i]);
        }
        LightcurveHouse x = Scenes.plain(1);
        for (int i = 0; i < 80; i++) {
            Scenes.see(x, 0, i, i == 79 ? 1 : 0);
        }
        x.comparison(1, 1079);
        Check.due("of 80, the last one 79 more", x.mean(0), 1000);
        x.comparison(1, 1080);
        Check.due("of 80, the last one 80 more", x.mean(0), 1001);
        x.comparison(1, 999);
        Check.due("of 80, the last one 1 less", x.mean(0), 999);
    }

    private static void promise27() {
        Sentence.test(27, "Tells of a MINIMUM of the ENTRY of a STAR.", () -> {
            LightcurveHouse x = minimaAt(0, 130);
            x.minimum(1, 260);
            x.merge(1, 0);
            Check.due("of its own star", x.cycle(1, 100, 2, true), -40);
            Check.due("of the other star", x.cycle(1, 100, 1, true), 30);
            x.split(1);
            Check.due("its only one", x.cycle(1, 100, 0, true), 0);
            Check.index("it has no other", () -> x.cycle(1, 100, 1, true));
        });
        Sentence.test(27, "star: a STAR", () -> {
            Refusals.indexes(Scenes.FEW, "star", 0, 3, (x, n) -> x.cycle(n, 100, 0, true));
            List<Scenes.CallOf> last = Scenes.with(Scenes.times(12, x -> x.star(0)), x -> x.minimum(0, 0), x -> x.minimum(11, 0));
            Refusals.indexes(last, "star", 0, 11, (x, n) -> x.cycle(n, 100, 0, true));
        });
        Sentence.test(27, "period: 30 to 1000000",
                () -> Refusals.arguments(Scenes.FEW, "period", 30, 1000000, (x, v) -> x.cycle(0, v, 2, true)));
        Sentence.test(27, "place: its place in the order, 0 for the first one", () -> {
            Refusals.indexes(Scenes.FEW, "place", 0, 2, (x, n) -> x.cycle(0, 100, n, true));
            Refusals.indexes(Scenes.FEW, "the only place", 0, 0, (x, n) -> x.cycle(2, 100, n, false));
            LightcurveHouse x = Scenes.plain(1);
            for (int i = 29; i >= 0; i--) {
                x.minimum(0, i);
            }
            for (int i = 0; i < 30; i++) {
                Check.due("at " + i, x.cycle(0, 100, i, true), i);
            }
            Check.index("no more", () -> x.cycle(0, 100, 30, true));
        });
        Sentence.test(27, "isOffset: whether its OFFSET; otherwise its CYCLE", () -> {
            Check.due("its offset", minimaAt(0, 130).cycle(0, 100, 1, true), 30);
            Check.due("its cycle", minimaAt(0, 130).cycle(0, 100, 1, false), 1);
        });
        Sentence.test(27, "Returns that.", () -> {
            due(minimaAt(7), 100, 0, 0, 0);
            due(minimaAt(7, 7), 100, 1, 0, 0);
            due(minimaAt(7, 56), 100, 1, 0, 49);
            due(minimaAt(7, 57), 100, 1, 1, -50);
        });
        Sentence.test(27, "Throws IndexOutOfBoundsException if there is no such STAR, or place", () -> {
            Refusals.noSuch(Scenes.EMPTY, "star", 0, -1, (x, n) -> x.cycle(n, 100, 0, true));
            Refusals.noSuch(Scenes.FEW, "star", 0, 3, (x, n) -> x.cycle(n, 100, 0, true));
            Refusals.noSuch(Scenes.FULL, "star, and more", 0, 11, (x, n) -> x.cycle(n, 29, 0, false));
            Refusals.noSuch(Scenes.FEW, "place", 0, 2, (x, n) -> x.cycle(0, 100, n, true));
            Refusals.noSuch(Scenes.FEW, "place, and period", 0, 2, (x, n) -> x.cycle(0, 1000001, n, false));
            Refusals.noSuch(Scenes.FULL, "place without minima", 0, -1, (x, n) -> x.cycle(11, 100, n, true));
            Refusals.noSuch(Scenes.FULL, "place without minima, and period", 0, -1, (x, n) -> x.cycle(11, 29, n, true));
        });
        Sentence.test(27, "Throws IllegalArgumentException if period is out of its range", () -> {
            Refusals.outOfRange(Scenes.FEW, "period", 30, 1000000, (x, v) -> x.cycle(0, v, 0, true));
            Refusals.outOfRange(Scenes.FEW, "period", 30, 1000000, (x, v) -> x.cycle(0, v, 2, false));
            Refusals.argument(Scenes.FULL, "period 0", x -> x.cycle(0, 0, 0, false));
        });
    }

    private static void promise28() {
        Sentence.test(28, "Returns between how many MINIMA of the ENTRY of a STAR, one right behind the other, CYCLES may be LOST.", () -> {
            LightcurveHouse x = minimaAt(0, 200);
            x.minimum(1, 130);
            Check.due("of star 0: offsets 0 0", x.lost(0, 100), 0);
            Check.due("of star 1: one", x.lost(1, 100), 0);
            x.merge(0, 1);
            Check.due("of both: offsets 0 30 0", x.lost(0, 100), 2);
            Check.due("by the other star", x.lost(1, 100), 2);
        });
        Sentence.test(28, "star: a STAR", () -> {
            Refusals.indexes(Scenes.FEW, "star", 0, 3, (x, n) -> x.lost(n, 100));
            Refusals.indexes(Scenes.FULL, "star", 0, 11, (x, n) -> x.lost(n, 100));
        });
        Sentence.test(28, "period: 30 to 1000000", () -> {
            Refusals.arguments(Scenes.FEW, "period", 30, 1000000, (x, v) -> x.lost(0, v));
            Check.due("the shortest", minimaAt(0, 38).lost(0, 30), 1);
            Check.due("the longest", minimaAt(0, 38).lost(0, 1000000), 0);
        });
        Sentence.test(28, "Returns how many.", () -> {
            Check.due("without minima", minimaAt().lost(0, 30), 0);
            Check.due("of one", minimaAt(50).lost(0, 30), 0);
            Check.due("of two", minimaAt(50, 76).lost(0, 100), 1);
            Check.due("of two at once", minimaAt(50, 50).lost(0, 30), 0);
            LightcurveHouse x = Scenes.plain(1);
            for (int i = 0; i < 30; i++) {
                x.minimum(0, 100 * i + i % 2 * 26);
            }
            Check.due("between each two of 30", x.lost(0, 100), 29);
        });
        Sentence.test(28, "Throws IndexOutOfBoundsException if there is no such STAR", () -> {
            Refusals.noSuch(Scenes.EMPTY, "star", 0, -1, (x, n) -> x.lost(n, 100));
            Refusals.noSuch(Scenes.FEW, "star", 0, 3, (x, n) -> x.lost(n, 100));
            Refusals.noSuch(Scenes.FULL, "star, and more", 0, 11, (x, n) -> x.lost(n, 29));
        });
        Sentence.test(28, "Throws IllegalArgumentException if period is out of its range", () -> {
            Refusals.outOfRange(Scenes.FEW, "period", 30, 1000000, (x, v) -> x.lost(0, v));
            Refusals.outOfRange(Scenes.FULL, "period without minima", 30, 1000000, (x, v) -> x.lost(11, v));
            Refusals.argument(Scenes.FULL, "period 0", x -> x.lost(0, 0));
        });
    }

    private static void promise29() {
        Sentence.test(29, "Sets the dust of a STAR.", () -> {
            LightcurveHouse x = Scenes.plain(2);
            Scenes.see(x, 1, 0, 0, 1000);
            x.claim(1, 30);
            x.dust(0, 100);
            Check.due("not of another one", x.modulus(1), 1300);
            x.dust(1, 7);
            Check.due("of that one", x.modulus(1), 1293);
        });
        Sentence.test(29, "star: a STAR", () -> {
            Refusals.indexes(Scenes.FEW, "star", 0, 3, (x, n) -> x.dust(n, 9));
            Refusals.indexes(Scenes.FULL, "star", 0, 11, (x, n) -> x.dust(n, 9));
        });
        Sentence.test(29, "dust: 0 to 500", () -> {
            Refusals.arguments(Scenes.FEW, "dust", 0, 500, (x, v) -> x.dust(1, v));
            LightcurveHouse x = Scenes.plain(1);
            Scenes.see(x, 0, 0, 0, -200);
            x.claim(0, 30);
            x.dust(0, 500);
            Check.due("the most", x.modulus(0), -400);
            x.dust(0, 0);
            Check.due("the least", x.modulus(0), 100);
        });
        Sentence.test(29, "Returns what it was.", () -> {
            LightcurveHouse x = Scenes.plain(2);
            Check.due("at first", x.dust(1, 500), 0);
            Check.due("the most", x.dust(1, 0), 500);
            Check.due("the least", x.dust(1, 3), 0);
            Check.argument("refused", () -> x.dust(1, 501));
            Check.due("as before the refused one", x.dust(1, 3), 3);
            x.merge(0, 1);
            Check.due("of the star, not of the entry", x.dust(1, 4), 3);
            Check.due("of the star", x.dust(0, 4), 0);
        });
        Sentence.test(29, "Throws IndexOutOfBoundsException if there is no such STAR", () -> {
            Refusals.noSuch(Scenes.EMPTY, "star", 0, -1, (x, n) -> x.dust(n, 0));
            Refusals.noSuch(Scenes.FEW, "star", 0, 3, (x, n) -> x.dust(n, 9));
            Refusals.noSuch(Scenes.FULL, "star, and more", 0, 11, (x, n) -> x.dust(n, 501));
        });
        Sentence.test(29, "Throws IllegalArgumentException if dust is out of its range", () -> {
            Refusals.outOfRange(Scenes.FEW, "dust", 0, 500, (x, v) -> x.dust(1, v));
            Refusals.outOfRange(Scenes.FULL, "dust", 0, 500, (x, v) -> x.dust(2, v));
        });
    }

    private static void promise30() {
        Sentence.test(30, "Sets the zero of the ladder.", () -> {
            LightcurveHouse x = Scenes.plain(2);
            for (int star = 0; star < 2; star++) {
                Scenes.see(x, star, 0, star, 100 * star);
                x.claim(star, 30);
            }
            x.zero(7);
            Check.due("for all", x.modulus(0), 293);
            Check.due("for all", x.modulus(1), 393);
        });
        Sentence.test(30, "zero: -1000 to 1000", () -> {
            Refusals.arguments(Scenes.FEW, "zero", -1000, 1000, (x, v) -> x.zero(v));
            LightcurveHouse x = Scenes.plain(1);
            Scenes.see(x, 0, 0, 0, 0);
            x.claim(0, 30);
            x.zero(-1000);
            Check.due("the least", x.modulus(0), 1300);
            x.zero(1000);
            Check.due("the greatest", x.modulus(0), -700);
        });
        Sentence.test(30, "Returns what it was.", () -> {
            LightcurveHouse x = new LightcurveHouse();
            Check.due("at first", x.zero(-1000), 0);
            Check.due("the least", x.zero(1000), -1000);
            Check.due("the greatest", x.zero(0), 1000);
            Check.argument("refused", () -> x.zero(1001));
            Check.due("as before the refused one", x.zero(5), 0);
            Check.due("of another house", new LightcurveHouse().zero(0), 0);
        });
        Sentence.test(30, "Throws IllegalArgumentException if zero is out of its range", () -> {
            for (List<Scenes.CallOf> scene : Scenes.ALL) {
                Refusals.outOfRange(scene, "zero", -1000, 1000, (x, v) -> x.zero(v));
            }
        });
    }

    private static void promise31() {
        Sentence.test(31, "Returns the MEAN of the ENTRY of a STAR.", () -> {
            LightcurveHouse x = Scenes.plain(3);
            Scenes.see(x, 0, 0, 0, 10);
            Scenes.see(x, 2, 0, 1, 21);
            x.merge(0, 2);
            x.merge(1, 2);
            for (int star = 0; star < 3; star++) {
                Check.due("of all", x.mean(star), 15);
            }
            x.split(0);
            Check.due("of the others", x.mean(1), 21);
            Check.due("of itself", x.mean(0), 10);
        });
        Sentence.test(31, "star: a STAR", () -> {
            List<Scenes.CallOf> one = List.of(x -> x.star(0), x -> x.star(0), x -> x.step(0, 0, 0, 0, 1, 1, 1), x -> x.merge(0, 1));
            Refusals.indexes(one, "star", 0, 1, (x, n) -> x.mean(n));
        });
        Sentence.test(31, "Returns the MEAN.", () -> {
            LightcurveHouse x = Scenes.plain(1);
            x.plate(0, 3000, 20);
            x.density(0, 0, 0);
            Check.due("of one, the greatest light", x.mean(0), 3000);
            x.join(0, -500);
            x.doubt(0, true);
            x.density(0, 0, 255);
            Check.due("of one, the least light", x.mean(0), -1010);
            x.doubt(0, false);
            Check.due("of two", x.mean(0), -755);
            x.join(0, -501 + 2);
            Check.due("of two", x.mean(0), -754);
        });
        Sentence.test(31, "Throws IndexOutOfBoundsException if there is no such STAR", () -> {
            Refusals.noSuch(Scenes.EMPTY, "star", 0, -1, (x, n) -> x.mean(n));
            Refusals.noSuch(Scenes.FEW, "star", 0, 3, (x, n) -> x.mean(n));
            Refusals.noSuch(Scenes.FULL, "star", 0, 11, (x, n) -> x.mean(n));
        });
        Sentence.test(31, "Throws IllegalStateException if the ENTRY has no LOOK", () -> {
            List<Scenes.CallOf> star = List.of(x -> x.star(91), x -> x.star(91), x -> x.claim(0, 30));
            List<Scenes.CallOf> looked = Scenes.with(star, x -> x.step(0, 0, 0, 0, 1, 1, 1));
            Refusals.state(star, "never told", x -> x.mean(0));
            Refusals.state(looked, "a look of another star", x -> x.mean(1));
            Refusals.taken(looked, "without a claim too, star", 0, (x, n) -> x.claim(n, 0) + x.mean(n));
            Refusals.state(Scenes.with(looked, x -> Scenes.bit(x.doubt(0, true))), "its only look is doubted", x -> x.mean(0));
            Refusals.state(Scenes.with(looked, x -> x.merge(0, 1), x -> x.split(0)), "the look went with its star", x -> x.mean(1));
        });
    }

    private static void promise32() {
        Sentence.test(32, "Returns the MODULUS of the ENTRY of a STAR.", () -> {
            LightcurveHouse x = Scenes.plain(3);
            Scenes.see(x, 1, 0, 0, 100);
            x.claim(2, 64);
            x.dust(0, 5);
            x.dust(1, 9);
            x.merge(2, 1);
            Check.due("look of one, claim of the other", x.modulus(2), 100 - 9 + 450);
            x.merge(2, 0);
            for (int star = 0; star < 3; star++) {
                Check.due("by any star of the entry", x.modulus(star), 100 - 5 + 450);
            }
        });
        Sentence.test(32, "star: a STAR", () -> {
            List<Scenes.CallOf> one = List.of(x -> x.star(0), x -> x.star(0), x -> x.step(0, 0, 0, 0, 1, 1, 1), x -> x.claim(1, 30),
                    x -> x.merge(0, 1));
            Refusals.indexes(one, "star", 0, 1, (x, n) -> x.modulus(n));
        });
        Sentence.test(32, "Returns the MODULUS.", () -> {
            LightcurveHouse x = Scenes.plain(1);
            x.plate(0, 3000, 20);
            x.density(0, 0, 0);
            x.claim(0, 1000000);
            x.zero(-1000);
            Check.due("the greatest of all", x.modulus(0), 3000 + 1000 + 19 * 75);
            x.join(0, -500);
            x.density(0, 0, 255);
            x.doubt(0, true);
            x.claim(0, 30);
            x.dust(0, 500);
            x.zero(1000);
            Check.due("the least of all", x.modulus(0), -1010 - 500 - 1000 + 300);
        });
        Sentence.test(32, "Throws IndexOutOfBoundsException if there is no such STAR", () -> {
            Refusals.noSuch(Scenes.EMPTY, "star", 0, -1, (x, n) -> x.modulus(n));
            Refusals.noSuch(Scenes.FEW, "star", 0, 3, (x, n) -> x.modulus(n));
            Refusals.noSuch(Scenes.FULL, "star", 0, 11, (x, n) -> x.modulus(n));
        });
        Sentence.test(32, "Throws IllegalStateException if the ENTRY has no CLAIM, or no LOOK", () -> {
            List<Scenes.CallOf> star = List.of(x -> x.star(91), x -> x.star(91));
            List<Scenes.CallOf> looked = Scenes.with(star, x -> x.step(0, 0, 0, 0, 1, 1, 1));
            List<Scenes.CallOf> both = Scenes.with(looked, x -> x.claim(0, 30));
            Refusals.state(star, "neither", x -> x.modulus(0));
            Refusals.state(Scenes.with(star, x -> x.claim(0, 30)), "no look", x -> x.modulus(0));
            Refusals.state(looked, "no claim", x -> x.modulus(0));
            Refusals.taken(both, "star", 0, (x, n) -> x.modulus(n));
            Refusals.state(Scenes.with(both, x -> x.claim(0, 0)), "no claim any more", x -> x.modulus(0));
            Refusals.state(Scenes.with(both, x -> Scenes.bit(x.doubt(0, true))), "its only look is doubted", x -> x.modulus(0));
            Refusals.state(Scenes.with(looked, x -> x.claim(1, 30)), "a claim of another entry", x -> x.modulus(0));
            Refusals.state(Scenes.with(looked, x -> x.claim(1, 30)), "a look of another entry", x -> x.modulus(1));
        });
    }

    private static void promise33() {
        Sentence.test(33, "Returns an ENTRY with a MODULUS, by these, the least one first, of several the lowest number.", () -> {
            LightcurveHouse x = Scenes.plain(12);
            for (int i = 0; i < 12; i++) {
                Scenes.see(x, i, 0, i % 3);
                x.claim(i, 32);
            }
            x.comparison(0, 500);
            x.comparison(1, 501);
            x.comparison(2, 500);
            order(x, 0, 2, 3, 5, 6, 8, 9, 11, 1, 4, 7, 10, Scenes.NONE);
            x.dust(10, 1);
            order(x, 0, 2, 3, 5, 6, 8, 9, 10, 11, 1, 4, 7, Scenes.NONE);
            x.dust(7, 2);
            order(x, 7, 0, 2, 3, 5, 6, 8, 9, 10, 11, 1, 4, Scenes.NONE);
            x.merge(11, 0);
            x.merge(7, 1);
            order(x, 0, 2, 3, 5, 6, 8, 9, 10, 1, 4, Scenes.NONE);
            x.claim(0, 31);
            order(x, 0, 2, 3, 5, 6, 8, 9, 10, 1, 4, Scenes.NONE);
            x.claim(0, 64);
            order(x, 2, 3, 5, 6, 8, 9, 10, 1, 4, 0, Scenes.NONE);
        });
        Sentence.test(33, "place: 0 or more", () -> {
            Refusals.taken(Scenes.FEW, "place", 0, (x, n) -> x.nearest(n));
            Refusals.taken(Scenes.FEW, "place", Scenes.MAX, (x, n) -> x.nearest(n));
            Refusals.index(Scenes.FEW, "place -1", x -> x.nearest(-1));
        });
        Sentence.test(33, "Returns the number of the ENTRY; NONE if there are not so many.", () -> {
            LightcurveHouse x = Scenes.plain(12);
            order(x, Scenes.NONE);
            for (int i = 11; i >= 0; i--) {
                Scenes.see(x, i, 0, 0);
                Check.due("a look, but no claim", x.nearest(11 - i), Scenes.NONE);
                x.claim(i, 30);
                Check.due("the lowest number", x.nearest(0), i);
                Check.due("the last one", x.nearest(11 - i), 11);
                Check.due("one more", x.nearest(12 - i), Scenes.NONE);
            }
            Check.due("far beyond", x.nearest(Scenes.MAX), Scenes.NONE);
            x.doubt(11, true);
            Check.due("star 0 has a claim, but no look", x.nearest(0), 1);
            Check.due("one less", x.nearest(11), Scenes.NONE);
            x.merge(0, 11);
            Check.due("the entry's number", x.nearest(0), 0);
            Check.due("the last one", x.nearest(10), 10);
        });
        Sentence.test(33, "Throws IndexOutOfBoundsException if place is below 0", () -> {
            for (List<Scenes.CallOf> scene : Scenes.ALL) {
                Refusals.index(scene, "place -1", x -> x.nearest(-1));
                Refusals.index(scene, "place -2", x -> x.nearest(-2));
                Refusals.index(scene, "the least place", x -> x.nearest(Scenes.MIN));
            }
        });
    }

    private static void order(LightcurveHouse x, int... due) {
        for (int i = 0; i < due.length; i++) {
            Check.due("nearest at " + i, x.nearest(i), due[i]);
        }
    }
}
