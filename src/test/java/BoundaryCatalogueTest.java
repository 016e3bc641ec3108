import java.util.List;

/** The boundary cases of the promises 12 to 16: the catalogue, and what is told of a look. */
final class BoundaryCatalogueTest {
    private static final List<Scenes.CallOf> TWELVE = Scenes.times(12, x -> x.star(91));

    private BoundaryCatalogueTest() { }

    static void run() {
        promise12();
        promise13();
        promise14();
        promise15();
        promise16();
    }

    private static void promise12() {
        Sentence.test(12, "MERGES the ENTRIES of two STARS.", () -> {
            LightcurveHouse x = Scenes.house(TWELVE);
            x.merge(0, 11);
            Check.due("one less", x.entries(-1), 11);
            Check.due("the last", x.entry(11), 0);
            Check.due("not the one in between", x.entry(10), 10);
            x.merge(10, 1);
            x.merge(11, 10);
            Check.due("both of the one", x.entry(1), 0);
            Check.due("both of the other", x.entry(10), 0);
            Check.due("entries", x.entries(-1), 9);
        });
        Sentence.test(12, "star: a STAR", () -> {
            Refusals.noSuch(TWELVE, "star", 0, 11, (x, n) -> x.merge(n, 5));
            Refusals.taken(TWELVE, "star", 0, (x, n) -> x.merge(n, 5));
            Refusals.taken(TWELVE, "star", 11, (x, n) -> x.merge(n, 5));
        });
        Sentence.test(12, "other: another one", () -> {
            Refusals.noSuch(TWELVE, "other", 0, 11, (x, n) -> x.merge(5, n));
            Refusals.taken(TWELVE, "other", 0, (x, n) -> x.merge(5, n));
            Refusals.taken(TWELVE, "other", 11, (x, n) -> x.merge(5, n));
            Refusals.state(TWELVE, "the same, the first one", x -> x.merge(0, 0));
            Refusals.state(TWELVE, "the same, the last one", x -> x.merge(11, 11));
        });
        Sentence.test(12, "Returns the number of the ENTRY then.", () -> {
            LightcurveHouse x = Scenes.house(TWELVE);
            Check.due("the lower one first", x.merge(10, 11), 10);
            Check.due("the lower one last", x.merge(9, 8), 8);
            Check.due("by one that is not the lowest", x.merge(11, 9), 8);
            Check.due("with the first one of all", x.merge(11, 0), 0);
            Check.due("from the first one of all", x.merge(0, 1), 0);
        });
        Sentence.test(12, "Throws IndexOutOfBoundsException if there is no such STAR, of either", () -> {
            Refusals.noSuch(Scenes.EMPTY, "both", 0, -1, (x, n) -> x.merge(n, n));
            int[] last = {3, 11};
            for (int i = 0; i < 2; i++) {
                Refusals.noSuch(Scenes.SOME.get(i), "star", 0, last[i], (x, n) -> x.merge(n, 0));
                Refusals.noSuch(Scenes.SOME.get(i), "other", 0, last[i], (x, n) -> x.merge(0, n));
                Refusals.noSuch(Scenes.SOME.get(i), "both", 0, last[i], (x, n) -> x.merge(n, n));
            }
        });
        Sentence.test(12, "Throws IllegalStateException if they are of one ENTRY", () -> {
            Refusals.state(Scenes.FEW, "one star, not merged", x -> x.merge(0, 0));
            Refusals.state(Scenes.FEW, "one star, merged", x -> x.merge(3, 3));
            Refusals.state(Scenes.FEW, "merged", x -> x.merge(1, 3));
            Refusals.state(Scenes.FEW, "merged, the other way", x -> x.merge(3, 1));
            Refusals.state(Scenes.FULL, "neither is the lowest", x -> x.merge(9, 6));
            LightcurveHouse x = Scenes.house(Scenes.FEW);
            x.split(3);
            Check.due("split off, and merged again", x.merge(1, 3), 1);
        });
    }

    private static void promise13() {
        List<Scenes.CallOf> three = Scenes.with(TWELVE, x -> x.merge(0, 5), x -> x.merge(5, 11));
        Sentence.test(13, "SPLITS a STAR off.", () -> {
            for (int star : new int[] {0, 5, 11}) {
                LightcurveHouse x = Scenes.house(three);
                x.split(star);
                Check.due("by itself", x.entry(star), star);
                Check.due("one more", x.entries(-1), 11);
                Check.state("by itself", () -> x.split(star));
                for (int other : new int[] {0, 5, 11}) {
                    Check.due("the others stay one", x.entry(other), other == star ? star : star == 0 ? 5 : 0);
                }
            }
        });
        Sentence.test(13, "star: a STAR", () -> {
            Refusals.taken(three, "star", 0, (x, n) -> x.split(n));
            Refusals.taken(three, "star", 11, (x, n) -> x.split(n));
            Refusals.noSuch(three, "star", 0, 11, (x, n) -> x.split(n));
        });
        Sentence.test(13, "Returns the number of the ENTRY of the others.", () -> {
            Check.due("the lowest goes", Scenes.house(three).split(0), 5);
            Check.due("one in the midst goes", Scenes.house(three).split(5), 0);
            Check.due("the last goes", Scenes.house(three).split(11), 0);
            LightcurveHouse x = Scenes.house(three);
            x.split(5);
            Check.due("of two, the lower goes", x.split(0), 11);
            LightcurveHouse y = Scenes.house(three);
            y.split(5);
            Check.due("of two, the higher goes", y.split(11), 0);
        });
        Sentence.test(13, "Throws IndexOutOfBoundsException if there is no such STAR", () -> {
            Refusals.noSuch(Scenes.EMPTY, "star", 0, -1, (x, n) -> x.split(n));
            Refusals.noSuch(Scenes.FEW, "star", 0, 3, (x, n) -> x.split(n));
            Refusals.noSuch(Scenes.FULL, "star", 0, 11, (x, n) -> x.split(n));
        });
        Sentence.test(13, "Throws IllegalStateException if it is an ENTRY by itself", () -> {
            Refusals.state(List.of(x -> x.star(5)), "the only one", x -> x.split(0));
            Refusals.state(Scenes.FEW, "never merged", x -> x.split(0));
            Refusals.state(Scenes.FEW, "never merged", x -> x.split(2));
            Refusals.state(Scenes.FULL, "the last one", x -> x.split(11));
            List<Scenes.CallOf> again = Scenes.with(Scenes.FEW, x -> x.split(1));
            Refusals.state(again, "split off", x -> x.split(1));
            Refusals.state(again, "the last of the others", x -> x.split(3));
        });
    }

    private static void promise14() {
        Sentence.test(14, "Returns the number of the ENTRY of a STAR.", () -> {
            LightcurveHouse x = Scenes.house(Scenes.FULL);
            int[] due = {0, 1, 2, 3, 4, 5, 2, 7, 8, 2, 4, 11};
            for (int i = 0; i < 12; i++) {
                Check.due("entry of " + i, x.entry(i), due[i]);
            }
        });
        Sentence.test(14, "star: a STAR", () -> {
            Refusals.indexes(Scenes.FEW, "star", 0, 3, (x, n) -> x.entry(n));
            Refusals.indexes(Scenes.FULL, "star", 0, 11, (x, n) -> x.entry(n));
        });
        Sentence.test(14, "Returns the number.", () -> {
            LightcurveHouse x = Scenes.house(TWELVE);
            Check.due("at first", x.entry(11), 11);
            x.merge(11, 10);
            Check.due("merged", x.entry(11), 10);
            x.split(10);
            Check.due("the others", x.entry(11), 11);
            Check.due("split off", x.entry(10), 10);
        });
        Sentence.test(14, "Throws IndexOutOfBoundsException if there is no such STAR", () -> {
            Refusals.noSuch(Scenes.EMPTY, "star", 0, -1, (x, n) -> x.entry(n));
            Refusals.noSuch(Scenes.FEW, "star", 0, 3, (x, n) -> x.entry(n));
            Refusals.noSuch(Scenes.FULL, "star", 0, 11, (x, n) -> x.entry(n));
        });
    }

    private static void promise15() {
        Sentence.test(15, "Returns how many ENTRIES there are, or one of them, in the order of their numbers.", () -> {
            LightcurveHouse x = Scenes.house(TWELVE);
            x.merge(11, 0);
            x.merge(2, 1);
            Check.due("how many", x.entries(-1), 10);
            int[] due = {0, 1, 3, 4, 5, 6, 7, 8, 9, 10, Scenes.NONE};
            for (int i = 0; i < due.length; i++) {
                Check.due("at " + i, x.entries(i), due[i]);
            }
            x.split(1);
            Check.due("2 is one now", x.entries(2), 2);
            x.split(0);
            Check.due("11 is the last one now", x.entries(11), 11);
        });
        Sentence.test(15, "place: -1 for how many; otherwise 0 or more", () -> {
            Refusals.taken(Scenes.FEW, "place", -1, (x, n) -> x.entries(n));
            Refusals.taken(Scenes.FEW, "place", 0, (x, n) -> x.entries(n));
            Refusals.taken(Scenes.FEW, "place", Scenes.MAX, (x, n) -> x.entries(n));
            Refusals.index(Scenes.FEW, "place -2", x -> x.entries(-2));
            LightcurveHouse x = Scenes.house(Scenes.FEW);
            Check.due("how many", x.entries(-1), 3);
            Check.due("the first one", x.entries(0), 0);
        });
        Sentence.test(15, "Returns how many; or the number of that at the place, NONE if there are not so many.", () -> {
            LightcurveHouse x = new LightcurveHouse();
            Check.due("none", x.entries(-1), 0);
            Check.due("at 0 of none", x.entries(0), Scenes.NONE);
            for (int i = 0; i < 12; i++) {
                x.star(0);
                Check.due("how many", x.entries(-1), i + 1);
                Check.due("the last one", x.entries(i), i);
                Check.due("one more", x.entries(i + 1), Scenes.NONE);
            }
            Check.due("far beyond", x.entries(Scenes.MAX), Scenes.NONE);
            for (int i = 11; i > 0; i--) {
                x.merge(i, 0);
                Check.due("the last one", x.entries(i - 1), i - 1);
                Check.due("one more", x.entries(i), Scenes.NONE);
            }
        });
        Sentence.test(15, "Throws IndexOutOfBoundsException if place is below -1", () -> {
            for (List<Scenes.CallOf> scene : Scenes.ALL) {
                Refusals.index(scene, "place -2", x -> x.entries(-2));
                Refusals.index(scene, "the least place", x -> x.entries(Scenes.MIN));
            }
        });
    }

    private static void promise16() {
        Sentence.test(16, "Tells something of a LOOK, as it is reckoned now.", () -> {
            LightcurveHouse x = Scenes.house(Scenes.FEW);
            int[] before = {987, 987, 18, 0, 0, 0};
            int[] after = {5, 4, 19, 0, 1, 0};
            toldOf(x, 0, before);
            x.comparison(1, 5);
            x.comparison(2, 5);
            x.bias(0, 1);
            x.clock(0, -1);
            x.doubt(0, true);
            toldOf(x, 0, after);
            toldOf(x, 3, new int[] {1407, 1407, 108, 0, 0, 1});
            x.join(0, 1000);
            toldOf(x, 3, new int[] {907, 907, 108, 0, 0, 1});
        });
        Sentence.test(16, "look: a LOOK", () -> {
            Refusals.indexes(Scenes.FEW, "look", 0, 7, (x, n) -> x.look(n, 5));
            Refusals.indexes(Scenes.FULL, "look", 0, 79, (x, n) -> x.look(n, 0));
        });
        Sentence.test(16, "what: 0 its RAW, 1 its light, 2 its TIME, 3 its STAR, 4 whether it is DOUBTED, 1 or 0, 5 its sort, "
                + "0 a STEP, 1 a DENSITY", () -> {
            Refusals.arguments(Scenes.FEW, "what", 0, 5, (x, v) -> x.look(7, v));
            LightcurveHouse x = Scenes.house(Scenes.FEW);
            toldOf(x, 5, new int[] {446, 439, 48, 3, 1, 0});
            toldOf(x, 4, new int[] {190, 190, 5008, 3, 0, 1});
        });
        Sentence.test(16, "Returns that.", () -> {
            LightcurveHouse x = Scenes.house(Scenes.FEW);
            toldOf(x, 2, new int[] {1000, 1000, 1475, 1, 0, 0});
            toldOf(x, 6, new int[] {1494, 1494, 100, 1, 0, 1});
            x.split(3);
            Check.due("the star, not the entry", x.look(4, 3), 3);
            x.merge(3, 0);
            Check.due("the star, not the entry", x.look(4, 3), 3);
        });
        Sentence.test(16, "Throws IndexOutOfBoundsException if there is no such LOOK", () -> {
            Refusals.noSuch(Scenes.EMPTY, "look", 0, -1, (x, n) -> x.look(n, 0));
            Refusals.noSuch(Scenes.FEW, "look", 0, 7, (x, n) -> x.look(n, 5));
            Refusals.noSuch(Scenes.FULL, "look", 0, 79, (x, n) -> x.look(n, 4));
            Refusals.noSuch(Scenes.FULL, "look, and more", 0, 79, (x, n) -> x.look(n, 6));
        });
        Sentence.test(16, "Throws IllegalArgumentException if what is out of its range", () -> {
            Refusals.outOfRange(Scenes.FEW, "what", 0, 5, (x, v) -> x.look(7, v));
            Refusals.outOfRange(Scenes.FULL, "what", 0, 5, (x, v) -> x.look(0, v));
        });
    }

    private static void toldOf(LightcurveHouse x, int look, int[] due) {
        for (int what = 0; what < due.length; what++) {
            Check.due("look " + look + ", what " + what, x.look(look, what), due[what]);
        }
    }
}
