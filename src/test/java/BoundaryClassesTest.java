import java.util.List;

/** The boundary cases of the section 'Features, classes' and of the promises 21 to 26. */
final class BoundaryClassesTest {
    private static final int AMPLITUDE = Scenes.AMPLITUDE, PERIOD = Scenes.PERIOD, RISE = Scenes.RISE;
    /** One entry of the stars 0 and 1, star 2 by itself: amplitude 170, period 300, rise 83. */
    private static final List<Scenes.CallOf> CLAIMED = List.of(x -> x.star(91), x -> x.star(91), x -> x.star(91),
            x -> x.comparison(0, 900), x -> x.comparison(1, 1070), x -> x.step(1, 0, 100, 0, 0, 1, 1),
            x -> x.step(1, 0, 750, 1, 0, 1, 0), x -> x.claim(0, 300), x -> x.merge(0, 1));

    private BoundaryClassesTest() { }

    static void run() {
        claims();
        features();
        classes();
        promise21();
        promise22();
        promise23();
        promise23Refused();
        promise24();
        promise25();
        promise26();
    }

    private static void claims() {
        Sentence.term("A STAR can have a CLAIM, a period; the CLAIM of an ENTRY is that of its lowest STAR that has one.", () -> {
            LightcurveHouse x = Scenes.plain(12);
            Scenes.see(x, 5, 0, 0);
            for (int i = 11; i > 0; i--) {
                x.merge(i, i - 1);
            }
            Check.state("none has one", () -> x.feature(0, PERIOD));
            for (int i = 11; i >= 0; i--) {
                x.claim(i, 100 + i);
                Check.due("that of " + i, x.feature(11, PERIOD), 100 + i);
            }
            for (int i = 0; i < 11; i++) {
                x.claim(i, 0);
                Check.due("that of the next one", x.feature(0, PERIOD), 101 + i);
            }
            x.split(11);
            Check.state("it took it along", () -> x.feature(0, PERIOD));
            x.claim(11, 0);
            x.merge(11, 0);
            Check.state("none has one", () -> x.feature(0, PERIOD));
        });
    }

    private static void features() {
        Sentence.term("The features of an ENTRY with a CLAIM and a LOOK are: the AMPLITUDE: the light of the faintest LOOK less that "
                + "of the brightest one;", () -> {
            Check.due("of one look", amplitude(500), 0);
            Check.due("of two alike", amplitude(500, 500), 0);
            Check.due("of two", amplitude(500, 501), 1);
            Check.due("of two, the first one the fainter", amplitude(501, 500), 1);
            Check.due("below 0", amplitude(-200, -199), 1);
            Check.due("from the least to the greatest", amplitude(0, -200, 2000), 2200);
            LightcurveHouse x = Scenes.plain(1);
            x.claim(0, 30);
            x.plate(0, 3000, 1);
            x.plate(0, -500, 20);
            x.density(0, 1, 255);
            x.density(0, 0, 0);
            Check.due("the greatest of all", x.feature(0, AMPLITUDE), 4010);
        });
        Sentence.term("the PERIOD: its CLAIM;", () -> {
            for (int claim : new int[] {30, 31, 999999, 1000000}) {
                Check.due("claim " + claim, seen(claim, 0, 1).feature(0, PERIOD), claim);
            }
        });
        Sentence.term("the RISE: the remainder of (the TIME of the brightest LOOK less that of the faintest one) by the CLAIM (0 or "
                + "more), times 100, divided by the CLAIM.", BoundaryClassesTest::rises);
        Sentence.term("(The brightest one is that with the least light, the faintest one that with the greatest light, of several "
                + "alike that with the least TIME, of several the lowest number.)", BoundaryClassesTest::severalAlike);
    }

    private static int amplitude(int... lights) {
        LightcurveHouse x = Scenes.plain(1);
        x.claim(0, 1000);
        for (int i = 0; i < lights.length; i++) {
            Scenes.see(x, 0, i, i, lights[i]);
        }
        return x.feature(0, AMPLITUDE);
    }

    /** The brightest look at one minute, the faintest one at another. */
    private static LightcurveHouse seen(int claim, int brightest, int faintest) {
        LightcurveHouse x = Scenes.plain(1);
        Scenes.see(x, 0, faintest, 0, 500);
        Scenes.see(x, 0, brightest, 1, 400);
        x.claim(0, claim);
        return x;
    }

    private static void rises() {
        int[][] rows = {{100, 7, 7, 0}, {100, 8, 7, 1}, {100, 106, 7, 99}, {100, 107, 7, 0}, {100, 108, 7, 1}, {100, 6, 7, 99},
            {100, 0, 100, 0}, {100, 0, 101, 99}, {100, 0, 99, 1}, {30, 29, 0, 96}, {30, 0, 1, 96}, {30, 30, 0, 0}, {30, 1, 0, 3},
            {30, 0, 29, 3}, {1000000, 0, 1, 99}, {1000000, 9999, 0, 0}, {1000000, 10000, 0, 1}, {1000000, 0, 10000, 99},
            {1000000, 0, 10001, 98}, {300, 100, 750, 83}, {200, 1, 0, 0}, {200, 2, 0, 1}, {200, 199, 0, 99}};
        for (int[] row : rows) {
            Check.due("by " + row[0] + ", brightest at " + row[1] + ", faintest at " + row[2],
                    seen(row[0], row[1], row[2]).feature(0, RISE), row[3]);
        }
        LightcurveHouse x = seen(1000, 0, 10);
        x.clock(0, 1000);
        Check.due("times below 0, -1000 and -990", x.feature(0, RISE), 99);
    }

    private static void severalAlike() {
        int[][] rows = {{60, 50, 70, 160, 150, 155, 90}, {50, 60, 70, 150, 160, 155, 90}, {70, 60, 50, 155, 160, 150, 90},
            {50, 60, 70, 155, 160, 170, 89}};
        for (int[] row : rows) {
            LightcurveHouse x = Scenes.plain(1);
            x.claim(0, 1000);
            for (int i = 0; i < 6; i++) {
                Scenes.see(x, 0, row[i], i / 3, 1000 + i / 3);
            }
            Check.due("the least times of the brightest and of the faintest", x.feature(0, RISE), row[6]);
        }
        LightcurveHouse x = Scenes.plain(1);
        x.claim(0, 1000);
        x.clock(0, 500);
        int[] times = {400, -500, 0, -400, 600, 0};
        for (int i = 0; i < 6; i++) {
            Scenes.see(x, 0, times[i] + 500, i / 3, 1000 + i / 3);
        }
        Check.due("times below 0: -500 and -400", x.feature(0, RISE), 90);
        x.doubt(1, true);
        Check.due("without the first one: 0 and -400", x.feature(0, RISE), 40);
        LightcurveHouse y = Scenes.plain(1);
        y.claim(0, 1000);
        Scenes.see(y, 0, 7, 0);
        Scenes.see(y, 0, 7, 0);
        Scenes.see(y, 0, 5, 0);
        Check.due("all alike: the same is the brightest and the faintest", y.feature(0, RISE), 0);
        Check.due("all alike", y.feature(0, AMPLITUDE), 0);
    }

    private static void classes() {
        Sentence.term("There are the CLASSES 0 to 4.", () -> {
            Refusals.arguments(CLAIMED, "kind", 0, 4, (x, v) -> x.votes(0, v));
            LightcurveHouse x = Scenes.house(CLAIMED);
            for (int kind = 4; kind >= 0; kind--) {
                x.rule(kind, PERIOD, 300, 300, 5 - kind);
                Check.due("class", x.kind(0), kind);
                Check.due("votes", x.votes(0, kind), 5 - kind);
            }
        });
        Sentence.term("RULES are numbered from 0, at most 8;", () -> {
            LightcurveHouse x = Scenes.house(CLAIMED);
            for (int i = 0; i < 8; i++) {
                int none = i;
                Check.indexAsked("not yet", () -> x.withdraw(none, true));
                Check.due("number", x.rule(0, PERIOD, 0, 1000000, 1), i);
            }
            Check.state("a ninth", () -> x.rule(0, PERIOD, 0, 1000000, 1));
            Check.indexAsked("a ninth", () -> x.withdraw(8, true));
            Check.due("votes of all", x.votes(0, 0), 8);
            Check.due("the first one", x.withdraw(0, true), false);
            Check.due("the last one", x.withdraw(7, true), false);
            Check.due("votes of the others", x.votes(0, 0), 6);
        });
        Sentence.term("a RULE tells a CLASS, a feature, a range, and votes, which may be below 0; it gives these votes to that CLASS "
                + "for an ENTRY whose feature is in the range, ends with it.", BoundaryClassesTest::endsOfRanges);
        Sentence.term("A RULE that is withdrawn gives none.", () -> {
            LightcurveHouse x = Scenes.house(CLAIMED);
            for (int i = 0; i < 8; i++) {
                x.rule(1, PERIOD, 300, 300, i == 7 ? -9 : 1);
            }
            Check.due("all", x.votes(0, 1), -2);
            x.withdraw(7, true);
            Check.due("without the last one", x.votes(0, 1), 7);
            for (int i = 0; i < 7; i++) {
                x.withdraw(i, true);
            }
            Check.due("all are withdrawn", x.votes(0, 1), 0);
            Check.due("no class", x.kind(0), Scenes.NONE);
            x.withdraw(0, false);
            Check.due("the first one again", x.kind(0), 1);
        });
        Sentence.term("The CLASS of an ENTRY is the one with the most votes, together, above 0, of several the lowest.",
                BoundaryClassesTest::mostVotes);
    }

    private static void endsOfRanges() {
        int[] values = {170, 300, 83};
        for (int feature = 0; feature < 3; feature++) {
            int value = values[feature];
            int[][] rows = {{value, value, 1}, {value - 1, value - 1, 0}, {value + 1, value + 1, 0}, {value - 1, value, 1},
                {value, value + 1, 1}, {0, value - 1, 0}, {value + 1, 1000000, 0}, {0, value, 1}, {value, 1000000, 1},
                {0, 1000000, 1}, {0, 0, 0}, {1000000, 1000000, 0}};
            for (int[] row : rows) {
                LightcurveHouse x = Scenes.house(CLAIMED);
                x.rule(3, feature, row[0], row[1], -9);
                Check.due("feature " + feature + " from " + row[0] + " to " + row[1], x.votes(1, 3), -9 * row[2]);
                Check.due("no other class", x.votes(1, 2), 0);
            }
        }
        LightcurveHouse x = Scenes.plain(1);
        Scenes.see(x, 0, 0, 0);
        x.claim(0, 1000000);
        x.rule(0, AMPLITUDE, 0, 0, 1);
        x.rule(0, RISE, 0, 0, 2);
        x.rule(0, PERIOD, 1000000, 1000000, 4);
        Check.due("0, 0 and 1000000", x.votes(0, 0), 7);
    }

    private static void mostVotes() {
        kind(Scenes.NONE);
        kind(Scenes.NONE, 0, -1);
        kind(Scenes.NONE, 0, 5, 0, -5);
        kind(0, 0, 5, 0, -4);
        kind(4, 4, 1);
        kind(0, 4, 1, 3, 1, 2, 1, 1, 1, 0, 1);
        kind(1, 4, 3, 3, 3, 1, 3, 0, 2);
        kind(4, 4, 4, 3, 3, 1, 3, 0, 2);
        kind(3, 4, 2, 4, 2, 3, 5, 0, -9);
        kind(4, 4, 2, 4, 4, 3, 5, 0, -9);
        kind(2, 2, 9, 3, 9, 2, -1, 3, -1);
        kind(2, 0, -1, 1, -1, 2, 1);
    }

    /** The class by rules of these classes and votes, by turns, all of which hold. */
    private static void kind(int due, int... rules) {
        LightcurveHouse x = Scenes.house(CLAIMED);
        StringBuilder what = new StringBuilder("class by rules");
        for (int i = 0; i < rules.length; i += 2) {
            x.rule(rules[i], PERIOD, 300, 300, rules[i + 1]);
            what.append(' ').append(rules[i]).append(": ").append(rules[i + 1]);
        }
        Check.due(what.toString(), x.kind(1), due);
    }

    private static void promise21() {
        Sentence.test(21, "Sets the CLAIM of a STAR.", () -> {
            LightcurveHouse x = Scenes.house(CLAIMED);
            x.claim(1, 200);
            Check.due("of the lowest star, still", x.feature(1, PERIOD), 300);
            x.claim(0, 0);
            Check.due("of that star", x.feature(1, PERIOD), 200);
            Check.due("of another one there is none", x.claim(2, 0), 0);
        });
        Sentence.test(21, "star: a STAR", () -> {
            Refusals.indexes(Scenes.FEW, "star", 0, 3, (x, n) -> x.claim(n, 99));
            Refusals.indexes(Scenes.FULL, "star", 0, 11, (x, n) -> x.claim(n, 0));
        });
        Sentence.test(21, "period: 30 to 1000000; 0 for no CLAIM", () -> {
            Refusals.arguments(Scenes.FEW, "period", 30, 1000000, (x, v) -> x.claim(0, v));
            Refusals.taken(Scenes.FEW, "period", 0, (x, v) -> x.claim(0, v));
            for (int wrong : new int[] {-1, 1, 29, -30}) {
                Refusals.argument(Scenes.FEW, "period " + wrong, x -> x.claim(0, wrong));
            }
            LightcurveHouse x = Scenes.house(CLAIMED);
            x.claim(0, 0);
            Check.state("no claim", () -> x.feature(0, PERIOD));
            x.claim(0, 30);
            Check.due("the shortest", x.feature(0, PERIOD), 30);
            x.claim(0, 1000000);
            Check.due("the longest", x.feature(0, PERIOD), 1000000);
        });
        Sentence.test(21, "Returns the one before, 0 if it had none.", () -> {
            LightcurveHouse x = Scenes.plain(2);
            Check.due("none at first", x.claim(1, 30), 0);
            Check.due("the shortest", x.claim(1, 1000000), 30);
            Check.due("the longest", x.claim(1, 0), 1000000);
            Check.due("none", x.claim(1, 0), 0);
            Check.argument("refused", () -> x.claim(1, 29));
            Check.due("as before the refused one", x.claim(1, 77), 0);
            x.merge(0, 1);
            Check.due("of the star, not of the entry", x.claim(0, 0), 0);
            Check.due("of the star", x.claim(1, 0), 77);
        });
        Sentence.test(21, "Throws IndexOutOfBoundsException if there is no such STAR", () -> {
            Refusals.noSuch(Scenes.EMPTY, "star", 0, -1, (x, n) -> x.claim(n, 0));
            Refusals.noSuch(Scenes.FEW, "star", 0, 3, (x, n) -> x.claim(n, 30));
            Refusals.noSuch(Scenes.FULL, "star, and more", 0, 11, (x, n) -> x.claim(n, 29));
        });
        Sentence.test(21, "Throws IllegalArgumentException if period is out of its range", () -> {
            for (int wrong : new int[] {29, 1, -1, 1000001, Scenes.MIN, Scenes.MAX}) {
                Refusals.argument(Scenes.FEW, "period " + wrong, x -> x.claim(3, wrong));
                Refusals.argument(Scenes.FULL, "period " + wrong, x -> x.claim(0, wrong));
            }
        });
    }

    private static void promise22() {
        Sentence.test(22, "Returns a feature of the ENTRY of a STAR.", () -> {
            LightcurveHouse x = Scenes.house(CLAIMED);
            int[] due = {170, 300, 83};
            for (int feature = 0; feature < 3; feature++) {
                Check.due("by its lowest star", x.feature(0, feature), due[feature]);
                Check.due("by another star", x.feature(1, feature), due[feature]);
            }
        });
        Sentence.test(22, "star: a STAR", () -> {
            List<Scenes.CallOf> one = Scenes.with(CLAIMED, x -> x.merge(2, 0));
            Refusals.indexes(one, "star", 0, 2, (x, n) -> x.feature(n, 0));
        });
        Sentence.test(22, "feature: AMPLITUDE, PERIOD or RISE",
                () -> Refusals.arguments(CLAIMED, "feature", AMPLITUDE, RISE, (x, v) -> x.feature(0, v)));
        Sentence.test(22, "Returns the feature.", () -> {
            LightcurveHouse x = Scenes.house(Scenes.FEW);
            Check.due("amplitude: from -14 to 1407", x.feature(0, AMPLITUDE), 1421);
            Check.due("period, by a star without a claim", x.feature(1, PERIOD), 417);
            Check.due("rise: 785 - 108, by 300", x.feature(0, RISE), 25);
        });
        Sentence.test(22, "Throws IndexOutOfBoundsException if there is no such STAR", () -> {
            Refusals.noSuch(Scenes.EMPTY, "star", 0, -1, (x, n) -> x.feature(n, 0));
            Refusals.noSuch(Scenes.FEW, "star", 0, 3, (x, n) -> x.feature(n, 2));
            Refusals.noSuch(Scenes.FULL, "star, and more", 0, 11, (x, n) -> x.feature(n, 3));
        });
        Sentence.test(22, "Throws IllegalArgumentException if feature is out of its range", () -> {
            Refusals.outOfRange(Scenes.FEW, "feature", 0, 2, (x, v) -> x.feature(0, v));
            Refusals.outOfRange(Scenes.FEW, "feature without a look", 0, 2, (x, v) -> x.feature(2, v));
            Refusals.outOfRange(Scenes.FULL, "feature", 0, 2, (x, v) -> x.feature(0, v));
        });
        Sentence.test(22, "Throws IllegalStateException if the ENTRY has no CLAIM, or no LOOK", () -> {
            for (int feature = 0; feature < 3; feature++) {
                int each = feature;
                noClaimOrLook(x -> x.feature(0, each));
            }
        });
    }

    /** The call is of the entry of star 0: refused without a claim, without a look, and without both, of all its stars. */
    private static void noClaimOrLook(Scenes.CallOf call) {
        List<Scenes.CallOf> star = List.of(x -> x.star(91), x -> x.star(91));
        List<Scenes.CallOf> looked = Scenes.with(star, x -> x.step(0, 0, 0, 0, 1, 1, 1));
        List<Scenes.CallOf> both = Scenes.with(looked, x -> x.claim(0, 30));
        Refusals.state(star, "neither", call);
        Refusals.state(Scenes.with(star, x -> x.claim(0, 30)), "no look", call);
        Refusals.state(looked, "no claim", call);
        Refusals.state(Scenes.with(both, x -> x.claim(0, 0)), "no claim any more", call);
        Refusals.state(Scenes.with(both, x -> Scenes.bit(x.doubt(0, true))), "its only look is doubted", call);
        Refusals.state(Scenes.with(looked, x -> x.claim(1, 30)), "a claim of another entry", call);
        Refusals.state(Scenes.with(star, x -> x.claim(0, 30), x -> x.step(1, 0, 0, 0, 1, 1, 1)), "a look of another entry", call);
        List<Scenes.CallOf> parted = Scenes.with(star, x -> x.step(1, 0, 0, 0, 1, 1, 1), x -> x.claim(0, 30), x -> x.merge(0, 1));
        Refusals.taken(parted, "a claim of one and a look of the other", 0, (x, n) -> call.answer(x));
        Refusals.taken(both, "one look", 0, (x, n) -> call.answer(x));
        Refusals.state(Scenes.with(parted, x -> x.split(1)), "the look went with its star", call);
    }

    private static void promise23() {
        Sentence.test(23, "Adds a RULE.", () -> {
            LightcurveHouse x = Scenes.house(CLAIMED);
            Check.due("no votes yet", x.votes(0, 2), 0);
            x.rule(2, RISE, 80, 90, 4);
            Check.due("its votes", x.votes(0, 2), 4);
            Check.due("not withdrawn", x.withdraw(0, false), false);
        });
        Sentence.test(23, "kind: 0 to 4: the CLASS", () -> {
            Refusals.arguments(Scenes.FEW, "kind", 0, 4, (x, v) -> x.rule(v, 0, 0, 0, 1));
            for (int kind = 0; kind < 5; kind++) {
                LightcurveHouse x = Scenes.house(CLAIMED);
                x.rule(kind, PERIOD, 300, 300, 1);
                Check.due("class", x.kind(0), kind);
            }
        });
        Sentence.test(23, "feature: AMPLITUDE, PERIOD or RISE",
                () -> Refusals.arguments(Scenes.FEW, "feature", AMPLITUDE, RISE, (x, v) -> x.rule(0, v, 0, 0, 1)));
        Sentence.test(23, "from: 0 to 1000000",
                () -> Refusals.arguments(Scenes.FEW, "from", 0, 1000000, (x, v) -> x.rule(0, 0, v, 1000000, 1)));
        Sentence.test(23, "to: from to 1000000", () -> {
            for (int from : new int[] {0, 1, 500, 999999, 1000000}) {
                Refusals.arguments(Scenes.FEW, "from " + from + ", to", from, 1000000, (x, v) -> x.rule(0, 0, from, v, 1));
            }
        });
        Sentence.test(23, "votes: -9 to 9, not 0", () -> {
            Refusals.arguments(Scenes.FEW, "votes", -9, 9, (x, v) -> x.rule(0, 0, 0, 0, v));
            Refusals.taken(Scenes.FEW, "votes", -1, (x, v) -> x.rule(0, 0, 0, 0, v));
            Refusals.taken(Scenes.FEW, "votes", 1, (x, v) -> x.rule(0, 0, 0, 0, v));
            Refusals.argument(Scenes.FEW, "votes 0", x -> x.rule(0, 0, 0, 0, 0));
            LightcurveHouse x = Scenes.house(CLAIMED);
            x.rule(0, PERIOD, 300, 300, 9);
            x.rule(1, PERIOD, 300, 300, -9);
            Check.due("the most", x.votes(0, 0), 9);
            Check.due("the least", x.votes(0, 1), -9);
        });
        Sentence.test(23, "Returns its number.", () -> {
            LightcurveHouse x = new LightcurveHouse();
            for (int i = 0; i < 8; i++) {
                Check.argument("refused", () -> x.rule(0, 0, 0, 0, 0));
                Check.due("number", x.rule(i % 5, i % 3, i, i, i - 9), i);
            }
        });
    }

    private static void promise23Refused() {
        Sentence.test(23, "Throws IllegalArgumentException if an argument is out of its range", () -> {
            for (List<Scenes.CallOf> scene : Scenes.ALL) {
                Refusals.outOfRange(scene, "kind", 0, 4, (x, v) -> x.rule(v, 0, 0, 0, 1));
                Refusals.outOfRange(scene, "feature", 0, 2, (x, v) -> x.rule(0, v, 0, 0, 1));
                Refusals.outOfRange(scene, "from", 0, 1000000, (x, v) -> x.rule(0, 0, v, 1000000, 1));
                Refusals.outOfRange(scene, "from and to", 0, 1000000, (x, v) -> x.rule(0, 0, v, v, 1));
                Refusals.outOfRange(scene, "to", 500, 1000000, (x, v) -> x.rule(0, 0, 500, v, 1));
                Refusals.outOfRange(scene, "votes", -9, 9, (x, v) -> x.rule(0, 0, 0, 0, v));
                Refusals.argument(scene, "votes 0", x -> x.rule(0, 0, 0, 0, 0));
            }
        });
        Sentence.test(23, "Throws IllegalStateException if there are 8", () -> {
            List<Scenes.CallOf> eight = Scenes.times(8, x -> x.rule(1, 1, 1, 1, 1));
            Refusals.taken(eight.subList(0, 7), "the eighth, kind", 4, (x, v) -> x.rule(v, 0, 0, 0, 1));
            Refusals.state(eight, "a ninth", x -> x.rule(0, 0, 0, 0, 1));
            Refusals.state(eight, "a ninth", x -> x.rule(4, 2, 1000000, 1000000, -9));
            Refusals.state(Scenes.with(eight, x -> Scenes.bit(x.withdraw(7, true))), "a ninth, one withdrawn",
                    x -> x.rule(0, 0, 0, 0, 1));
            Refusals.state(Scenes.FULL, "a ninth", x -> x.rule(0, 0, 0, 0, 1));
        });
    }

    private static void promise24() {
        Sentence.test(24, "Tells whether a RULE is withdrawn from now on.", () -> {
            LightcurveHouse x = Scenes.house(CLAIMED);
            x.rule(2, PERIOD, 300, 300, 3);
            x.rule(2, PERIOD, 300, 300, 5);
            Check.due("both", x.votes(0, 2), 8);
            x.withdraw(0, true);
            Check.due("one", x.votes(0, 2), 5);
            x.withdraw(0, true);
            Check.due("told twice", x.votes(0, 2), 5);
            x.withdraw(0, false);
            Check.due("both again", x.votes(0, 2), 8);
        });
        Sentence.test(24, "rule: a RULE", () -> {
            Refusals.indexes(Scenes.FEW, "rule", 0, 2, (x, n) -> Scenes.bit(x.withdraw(n, true)));
            Refusals.indexes(Scenes.FULL, "rule", 0, 7, (x, n) -> Scenes.bit(x.withdraw(n, true)));
        });
        Sentence.test(24, "is: whether it is", () -> {
            LightcurveHouse x = Scenes.house(CLAIMED);
            x.rule(2, PERIOD, 300, 300, 3);
            x.withdraw(0, false);
            Check.due("it is not", x.kind(0), 2);
            x.withdraw(0, true);
            Check.due("it is", x.kind(0), Scenes.NONE);
        });
        Sentence.test(24, "Returns whether it was.", () -> {
            LightcurveHouse x = Scenes.house(Scenes.FULL);
            Check.due("not at first", x.withdraw(0, false), false);
            Check.due("not yet", x.withdraw(0, true), false);
            Check.due("it was", x.withdraw(0, true), true);
            Check.due("it was", x.withdraw(0, false), true);
            Check.due("not any more", x.withdraw(0, false), false);
            Check.due("the last one was", x.withdraw(7, false), true);
            Check.due("the last but one was not", x.withdraw(6, false), false);
        });
        Sentence.test(24, "Throws IndexOutOfBoundsException if there is no such RULE", () -> {
            for (boolean is : new boolean[] {true, false}) {
                Refusals.noSuch(Scenes.EMPTY, "rule", 0, -1, (x, n) -> Scenes.bit(x.withdraw(n, is)));
                Refusals.noSuch(Scenes.FEW, "rule", 0, 2, (x, n) -> Scenes.bit(x.withdraw(n, is)));
                Refusals.noSuch(Scenes.FULL, "rule", 0, 7, (x, n) -> Scenes.bit(x.withdraw(n, is)));
            }
        });
    }

    private static void promise25() {
        Sentence.test(25, "Returns the votes, together, that RULES give to a CLASS for the ENTRY of a STAR.", () -> {
            LightcurveHouse x = Scenes.house(CLAIMED);
            Check.due("no rules", x.votes(0, 4), 0);
            x.rule(4, PERIOD, 300, 300, 9);
            x.rule(4, AMPLITUDE, 170, 170, -4);
            x.rule(4, RISE, 84, 1000000, 7);
            x.rule(3, PERIOD, 300, 300, 1);
            Check.due("of two that hold", x.votes(0, 4), 5);
            Check.due("by another star of the entry", x.votes(1, 4), 5);
            Check.due("of another class", x.votes(0, 3), 1);
        });
        Sentence.test(25, "star: a STAR", () -> {
            List<Scenes.CallOf> one = Scenes.with(CLAIMED, x -> x.merge(2, 0));
            Refusals.indexes(one, "star", 0, 2, (x, n) -> x.votes(n, 0));
        });
        Sentence.test(25, "kind: 0 to 4: the CLASS", () -> Refusals.arguments(CLAIMED, "kind", 0, 4, (x, v) -> x.votes(0, v)));
        Sentence.test(25, "Returns the votes, perhaps below 0.", () -> {
            for (int votes : new int[] {-9, 9}) {
                LightcurveHouse x = Scenes.house(CLAIMED);
                for (int i = 0; i < 8; i++) {
                    x.rule(0, PERIOD, 300, 300, votes);
                }
                Check.due("of eight rules", x.votes(0, 0), 8 * votes);
            }
        });
        Sentence.test(25, "Throws IndexOutOfBoundsException if there is no such STAR", () -> {
            Refusals.noSuch(Scenes.EMPTY, "star", 0, -1, (x, n) -> x.votes(n, 0));
            Refusals.noSuch(Scenes.FEW, "star", 0, 3, (x, n) -> x.votes(n, 4));
            Refusals.noSuch(Scenes.FULL, "star, and more", 0, 11, (x, n) -> x.votes(n, 5));
        });
        Sentence.test(25, "Throws IllegalArgumentException if kind is out of its range", () -> {
            Refusals.outOfRange(Scenes.FEW, "kind", 0, 4, (x, v) -> x.votes(0, v));
            Refusals.outOfRange(Scenes.FEW, "kind without a look", 0, 4, (x, v) -> x.votes(2, v));
            Refusals.outOfRange(Scenes.FULL, "kind", 0, 4, (x, v) -> x.votes(0, v));
        });
        Sentence.test(25, "Throws IllegalStateException if the ENTRY has no CLAIM, or no LOOK",
                () -> noClaimOrLook(x -> x.votes(0, 4)));
    }

    private static void promise26() {
        Sentence.test(26, "Returns the CLASS of the ENTRY of a STAR.", () -> {
            LightcurveHouse x = Scenes.house(CLAIMED);
            x.rule(3, AMPLITUDE, 170, 170, 1);
            Check.due("by its lowest star", x.kind(0), 3);
            Check.due("by another star", x.kind(1), 3);
            Check.state("not of another entry", () -> x.kind(2));
        });
        Sentence.test(26, "star: a STAR", () -> {
            List<Scenes.CallOf> one = Scenes.with(CLAIMED, x -> x.merge(2, 0));
            Refusals.indexes(one, "star", 0, 2, (x, n) -> x.kind(n));
        });
        Sentence.test(26, "Returns the CLASS; NONE if none has votes above 0.", () -> {
            kind(Scenes.NONE);
            kind(Scenes.NONE, 0, -1, 1, -1, 2, -1, 3, -1, 4, -1);
            kind(Scenes.NONE, 4, 9, 4, -9);
            kind(4, 4, 9, 4, -8);
            kind(0, 0, 1);
        });
        Sentence.test(26, "Throws IndexOutOfBoundsException if there is no such STAR", () -> {
            Refusals.noSuch(Scenes.EMPTY, "star", 0, -1, (x, n) -> x.kind(n));
            Refusals.noSuch(Scenes.FEW, "star", 0, 3, (x, n) -> x.kind(n));
            Refusals.noSuch(Scenes.FULL, "star", 0, 11, (x, n) -> x.kind(n));
        });
        Sentence.test(26, "Throws IllegalStateException if the ENTRY has no CLAIM, or no LOOK", () -> noClaimOrLook(x -> x.kind(0)));
    }
}
