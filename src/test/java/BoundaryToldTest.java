import java.util.List;

/** The boundary cases of the promises 1 to 11: what is told. */
final class BoundaryToldTest {
    private BoundaryToldTest() { }

    static void run() {
        promise1();
        promise2();
        promise3();
        promise4();
        promise5();
        promise6();
        promise7();
        promise8();
        promise8Refused();
        promise9();
        promise10();
        promise11();
    }

    private static void promise1() {
        String sentence = "No STARS, PLATES, LOOKS, RULES and MINIMA.";
        Sentence.test(1, sentence, () -> {
            for (Refusals.CallWith call : WrongCalls.OF_STAR) {
                Refusals.noSuch(Scenes.EMPTY, "no star", 0, -1, call);
            }
            LightcurveHouse x = new LightcurveHouse();
            Check.due("no entries", x.entries(-1), 0);
            Check.due("no first entry", x.entries(0), Scenes.NONE);
            Check.due("no nearest", x.nearest(0), Scenes.NONE);
            Check.due("the first star", x.star(0), 0);
            Check.due("its entry", x.entries(0), 0);
        });
        Sentence.test(1, sentence, () -> {
            List<Scenes.CallOf> scene = List.of(x -> x.star(91));
            Refusals.noSuch(scene, "no plate", 0, -1, (x, n) -> x.join(n, 0));
            Refusals.noSuch(scene, "no plate", 0, -1, (x, n) -> x.density(0, n, 0));
            Refusals.noSuch(scene, "no look", 0, -1, (x, n) -> x.look(n, 0));
            Refusals.noSuch(scene, "no look", 0, -1, (x, n) -> Scenes.bit(x.doubt(n, true)));
            Refusals.noSuch(scene, "no rule", 0, -1, (x, n) -> Scenes.bit(x.withdraw(n, true)));
            Refusals.noSuch(scene, "no minimum", 0, -1, (x, n) -> x.cycle(0, 100, n, true));
            Refusals.state(scene, "no look", x -> x.mean(0));
        });
        Sentence.test(1, sentence, () -> {
            LightcurveHouse x = Scenes.plain(1);
            Check.due("no looks to string", x.string(0, 100), 0);
            Check.due("no minima to lose", x.lost(0, 100), 0);
            Check.due("the first plate", x.plate(0, 0, 1), 0);
            Check.due("the first look", x.density(0, 0, 0), 0);
            Check.due("no claim", x.claim(0, 100), 0);
            Check.due("no votes", x.votes(0, 0), 0);
            Check.due("no class", x.kind(0), Scenes.NONE);
            Check.due("the first rule", x.rule(0, 0, 0, 0, 1), 0);
            Check.due("the first minimum", x.minimum(0, 0), 0);
            Check.due("another house has no stars", new LightcurveHouse().entries(-1), 0);
        });
    }

    private static void promise2() {
        Sentence.test(2, "Sets the LIGHT of a COMPARISON, for all LOOKS.", () -> {
            LightcurveHouse x = Scenes.plain(1);
            for (int i = 0; i < 80; i++) {
                Check.due("number", x.step(0, i % 8, i, i % 2 == 0 ? 4 : 5, 1, 1, i % 2 == 0 ? 5 : 4), i);
            }
            x.doubt(1, true);
            x.comparison(4, 0);
            for (int i = 0; i < 80; i++) {
                Check.due("raw of look " + i, x.look(i, 0), 500);
            }
        });
        Sentence.test(2, "comparison: 0 to 9", () -> {
            Refusals.indexes(Scenes.FEW, "comparison", 0, 9, (x, n) -> x.comparison(n, 77));
            LightcurveHouse x = new LightcurveHouse();
            Check.due("the first one", x.comparison(0, 5), 1000);
            Check.due("the last one", x.comparison(9, 6), 1000);
            Check.due("each its own", x.comparison(0, 0), 5);
            Check.due("each its own", x.comparison(9, 0), 6);
        });
        Sentence.test(2, "light: -200 to 2000", () -> {
            Refusals.arguments(Scenes.FEW, "light", -200, 2000, (x, v) -> x.comparison(0, v));
            LightcurveHouse x = Scenes.plain(1);
            Scenes.see(x, 0, 0, 9, -200);
            Check.due("the least", x.look(0, 0), -200);
            x.comparison(9, 2000);
            Check.due("the greatest", x.look(0, 0), 2000);
        });
        Sentence.test(2, "Returns what it was.", () -> {
            LightcurveHouse x = new LightcurveHouse();
            Check.due("at first", x.comparison(5, -200), 1000);
            Check.due("the least", x.comparison(5, 2000), -200);
            Check.due("the greatest", x.comparison(5, 2000), 2000);
            Check.due("told twice", x.comparison(5, 0), 2000);
            Check.argument("refused", () -> x.comparison(5, 2001));
            Check.due("as before the refused one", x.comparison(5, 1), 0);
        });
        Sentence.test(2, "Throws IndexOutOfBoundsException if there is no such COMPARISON", () -> {
            for (List<Scenes.CallOf> scene : Scenes.ALL) {
                Refusals.noSuch(scene, "comparison", 0, 9, (x, n) -> x.comparison(n, 1234));
                Refusals.noSuch(scene, "comparison, its light", 0, 9, (x, n) -> x.comparison(n, 2001));
            }
        });
        Sentence.test(2, "Throws IllegalArgumentException if light is out of its range", () -> {
            for (List<Scenes.CallOf> scene : Scenes.ALL) {
                Refusals.outOfRange(scene, "light", -200, 2000, (x, v) -> x.comparison(9, v));
            }
        });
    }

    private static void promise3() {
        Sentence.test(3, "Adds a STAR.", () -> {
            LightcurveHouse x = Scenes.plain(11);
            Scenes.see(x, 10, 0, 0);
            Check.index("not yet", () -> x.claim(11, 0));
            x.star(91);
            Check.due("one more entry", x.entries(-1), 12);
            Check.due("its entry", x.entry(11), 11);
            Check.due("no claim", x.claim(11, 0), 0);
            Check.due("no dust", x.dust(11, 0), 0);
            Check.state("no look", () -> x.mean(11));
        });
        Sentence.test(3, "place: 0 to 363", () -> {
            Refusals.arguments(Scenes.FEW, "place", 0, 363, (x, v) -> x.star(v));
            LightcurveHouse x = Scenes.stars(0, 363, 1, 362);
            int[] due = {7, 8, 7, 8, 7, 7, 7, 8};
            for (int i = 0; i < 8; i++) {
                int minute = (12 + i / 4) * 1440;
                Scenes.see(x, i % 4, minute, 0);
                Check.due("star " + i % 4 + ", minute " + minute, x.look(i, 2) - minute, due[i]);
            }
        });
        Sentence.test(3, "Returns its number.", () -> {
            LightcurveHouse x = new LightcurveHouse();
            for (int i = 0; i < 12; i++) {
                Check.argument("refused", () -> x.star(364));
                Check.due("number", x.star(363), i);
            }
        });
        Sentence.test(3, "Throws IllegalArgumentException if place is out of its range", () -> {
            for (List<Scenes.CallOf> scene : Scenes.ALL) {
                Refusals.outOfRange(scene, "place", 0, 363, (x, v) -> x.star(v));
            }
        });
        Sentence.test(3, "Throws IllegalStateException if there are 12", () -> {
            List<Scenes.CallOf> twelve = Scenes.times(12, x -> x.star(7));
            Refusals.taken(twelve.subList(0, 11), "the twelfth, place", 0, (x, v) -> x.star(v));
            Refusals.state(twelve, "a thirteenth", x -> x.star(0));
            Refusals.state(twelve, "a thirteenth", x -> x.star(363));
            Refusals.state(Scenes.with(twelve, x -> x.merge(0, 11)), "a thirteenth, of 11 entries", x -> x.star(0));
            Refusals.state(Scenes.FULL, "a thirteenth", x -> x.star(5));
        });
    }

    private static void promise4() {
        Sentence.test(4, "Sets the BIAS of a watcher, for all LOOKS.", () -> {
            LightcurveHouse x = Scenes.house(Scenes.FULL);
            for (int watcher = 0; watcher < 8; watcher++) {
                x.bias(watcher, 0);
            }
            x.bias(7, 99);
            for (int i = 0; i < 80; i++) {
                boolean isHis = i % 3 != 0 && i % 8 == 7;
                Check.due("bias of look " + i, x.look(i, 0) - x.look(i, 1), isHis ? 99 : 0);
            }
        });
        Sentence.test(4, "watcher: 0 to 7", () -> {
            Refusals.indexes(Scenes.FEW, "watcher", 0, 7, (x, n) -> x.bias(n, 11));
            LightcurveHouse x = new LightcurveHouse();
            x.bias(0, 5);
            x.bias(7, 6);
            Check.due("the first one", x.bias(0, 0), 5);
            Check.due("the last one", x.bias(7, 0), 6);
        });
        Sentence.test(4, "bias: -99 to 99", () -> {
            Refusals.arguments(Scenes.FEW, "bias", -99, 99, (x, v) -> x.bias(2, v));
            LightcurveHouse x = Scenes.plain(1);
            Scenes.see(x, 0, 0, 0);
            x.bias(0, -99);
            Check.due("the least", x.look(0, 1), 1099);
            x.bias(0, 99);
            Check.due("the greatest", x.look(0, 1), 901);
        });
        Sentence.test(4, "Returns what it was.", () -> {
            LightcurveHouse x = new LightcurveHouse();
            Check.due("at first", x.bias(7, -99), 0);
            Check.due("the least", x.bias(7, 99), -99);
            Check.due("the greatest", x.bias(7, 99), 99);
            Check.argument("refused", () -> x.bias(7, 100));
            Check.due("as before the refused one", x.bias(7, 0), 99);
        });
        Sentence.test(4, "Throws IndexOutOfBoundsException if there is no such watcher", () -> {
            for (List<Scenes.CallOf> scene : Scenes.ALL) {
                Refusals.noSuch(scene, "watcher", 0, 7, (x, n) -> x.bias(n, 1));
                Refusals.noSuch(scene, "watcher, his bias", 0, 7, (x, n) -> x.bias(n, -100));
            }
        });
        Sentence.test(4, "Throws IllegalArgumentException if bias is out of its range", () -> {
            for (List<Scenes.CallOf> scene : Scenes.ALL) {
                Refusals.outOfRange(scene, "bias", -99, 99, (x, v) -> x.bias(7, v));
            }
        });
    }

    private static void promise5() {
        Sentence.test(5, "Sets the CLOCK of a watcher, for all LOOKS.", () -> {
            LightcurveHouse x = Scenes.house(Scenes.FULL);
            LightcurveHouse y = Scenes.house(Scenes.FULL);
            x.clock(7, 1440);
            for (int i = 0; i < 80; i++) {
                boolean isHis = i % 3 != 0 && i % 8 == 7;
                Check.due("clock of look " + i, y.look(i, 2) - x.look(i, 2), isHis ? 1440 : 0);
            }
        });
        Sentence.test(5, "watcher: 0 to 7", () -> {
            Refusals.indexes(Scenes.FEW, "watcher", 0, 7, (x, n) -> x.clock(n, 11));
            LightcurveHouse x = new LightcurveHouse();
            x.clock(0, 5);
            x.clock(7, 6);
            Check.due("the first one", x.clock(0, 0), 5);
            Check.due("the last one", x.clock(7, 0), 6);
        });
        Sentence.test(5, "minutes: -1440 to 1440", () -> {
            Refusals.arguments(Scenes.FEW, "minutes", -1440, 1440, (x, v) -> x.clock(2, v));
            LightcurveHouse x = Scenes.plain(1);
            Scenes.see(x, 0, 1439, 0);
            x.clock(0, -1440);
            Check.due("the least", x.look(0, 2), 2879);
            x.clock(0, 1440);
            Check.due("the greatest", x.look(0, 2), -1);
        });
        Sentence.test(5, "Returns what it was.", () -> {
            LightcurveHouse x = new LightcurveHouse();
            Check.due("at first", x.clock(0, -1440), 0);
            Check.due("the least", x.clock(0, 1440), -1440);
            Check.due("the greatest", x.clock(0, 1440), 1440);
            Check.argument("refused", () -> x.clock(0, -1441));
            Check.due("as before the refused one", x.clock(0, 0), 1440);
        });
        Sentence.test(5, "Throws IndexOutOfBoundsException if there is no such watcher", () -> {
            for (List<Scenes.CallOf> scene : Scenes.ALL) {
                Refusals.noSuch(scene, "watcher", 0, 7, (x, n) -> x.clock(n, 1));
                Refusals.noSuch(scene, "watcher, his clock", 0, 7, (x, n) -> x.clock(n, 1441));
            }
        });
        Sentence.test(5, "Throws IllegalArgumentException if minutes is out of its range", () -> {
            for (List<Scenes.CallOf> scene : Scenes.ALL) {
                Refusals.outOfRange(scene, "minutes", -1440, 1440, (x, v) -> x.clock(7, v));
            }
        });
    }

    private static void promise6() {
        Sentence.test(6, "Adds a PLATE.", () -> {
            LightcurveHouse x = Scenes.plain(1);
            Check.index("not yet", () -> x.density(0, 0, 0));
            x.plate(17, 0, 1);
            Check.due("on it", x.density(0, 0, 0), 0);
            Check.due("its minute", x.look(0, 2), 17);
            Check.index("no more", () -> x.density(0, 1, 0));
        });
        Sentence.test(6, "minute: 0 to 9999999", () -> {
            Refusals.arguments(Scenes.FEW, "minute", 0, 9999999, (x, v) -> x.plate(v, 0, 1));
            plate(0, 0, 1, 100, -10, 0);
            plate(9999999, 0, 1, 100, -10, 9999997);
        });
        Sentence.test(6, "zero: -500 to 3000", () -> {
            Refusals.arguments(Scenes.FEW, "zero", -500, 3000, (x, v) -> x.plate(0, v, 1));
            plate(5, -500, 1, 10, -501, 5);
            plate(5, 3000, 1, 10, 2999, 5);
        });
        Sentence.test(6, "slope: 1 to 20", () -> {
            Refusals.arguments(Scenes.FEW, "slope", 1, 20, (x, v) -> x.plate(0, 0, v));
            plate(5, 1000, 1, 255, 975, 5);
            plate(5, 1000, 20, 255, 490, 5);
        });
        Sentence.test(6, "Returns its number.", () -> {
            LightcurveHouse x = new LightcurveHouse();
            for (int i = 0; i < 8; i++) {
                Check.argument("refused", () -> x.plate(0, 0, 0));
                Check.due("number", x.plate(0, 0, 1), i);
            }
        });
        Sentence.test(6, "Throws IllegalArgumentException if minute, zero or slope is out of its range", () -> {
            for (List<Scenes.CallOf> scene : Scenes.ALL) {
                Refusals.outOfRange(scene, "minute", 0, 9999999, (x, v) -> x.plate(v, 0, 1));
                Refusals.outOfRange(scene, "zero", -500, 3000, (x, v) -> x.plate(0, v, 1));
                Refusals.outOfRange(scene, "slope", 1, 20, (x, v) -> x.plate(0, 0, v));
            }
        });
        Sentence.test(6, "Throws IllegalStateException if there are 8", () -> {
            List<Scenes.CallOf> eight = Scenes.times(8, x -> x.plate(1, 2, 3));
            Refusals.taken(eight.subList(0, 7), "the eighth, minute", 0, (x, v) -> x.plate(v, 0, 1));
            Refusals.state(eight, "a ninth", x -> x.plate(0, -500, 1));
            Refusals.state(Scenes.FULL, "a ninth", x -> x.plate(9999999, 3000, 20));
        });
    }

    private static void plate(int minute, int zero, int slope, int density, int raw, int time) {
        LightcurveHouse x = Scenes.plain(1);
        x.plate(minute, zero, slope);
        x.density(0, 0, density);
        Check.due("raw", x.look(0, 0), raw);
        Check.due("time", x.look(0, 2), time);
    }

    private static void promise7() {
        Sentence.test(7, "Sets the ZERO of a PLATE, for all LOOKS.", () -> {
            LightcurveHouse x = Scenes.house(Scenes.FULL);
            LightcurveHouse y = Scenes.house(Scenes.FULL);
            Check.due("of the last one", x.join(7, 1599), 1600);
            for (int i = 0; i < 80; i++) {
                boolean isOn = i % 3 == 0 && i % 8 == 7;
                Check.due("zero of look " + i, y.look(i, 1) - x.look(i, 1), isOn ? 1 : 0);
            }
        });
        Sentence.test(7, "plate: a PLATE", () -> {
            Refusals.indexes(Scenes.FEW, "plate", 0, 1, (x, n) -> x.join(n, 11));
            Refusals.indexes(Scenes.FULL, "plate", 0, 7, (x, n) -> x.join(n, 11));
            LightcurveHouse x = Scenes.house(Scenes.FULL);
            Check.due("the first one", x.join(0, 5), 900);
            Check.due("the last one", x.join(7, 6), 1600);
            Check.due("each its own", x.join(0, 7), 5);
        });
        Sentence.test(7, "zero: -500 to 3000", () -> {
            Refusals.arguments(Scenes.FEW, "zero", -500, 3000, (x, v) -> x.join(1, v));
            LightcurveHouse x = Scenes.house(Scenes.FEW);
            x.join(0, -500);
            Check.due("the least: -500 less 133 * 7 / 10", x.look(3, 0), -593);
            x.join(0, 3000);
            Check.due("the greatest", x.look(3, 0), 2907);
        });
        Sentence.test(7, "Returns what it was.", () -> {
            LightcurveHouse x = new LightcurveHouse();
            x.plate(0, 3000, 1);
            Check.due("at first", x.join(0, -500), 3000);
            Check.due("the least", x.join(0, 3000), -500);
            Check.argument("refused", () -> x.join(0, 3001));
            Check.due("as before the refused one", x.join(0, 0), 3000);
            Check.due("0", x.join(0, 0), 0);
        });
        Sentence.test(7, "Throws IndexOutOfBoundsException if there is no such PLATE", () -> {
            Refusals.noSuch(Scenes.EMPTY, "plate", 0, -1, (x, n) -> x.join(n, 0));
            Refusals.noSuch(Scenes.FEW, "plate", 0, 1, (x, n) -> x.join(n, 0));
            Refusals.noSuch(Scenes.FEW, "plate, its zero", 0, 1, (x, n) -> x.join(n, -501));
            Refusals.noSuch(Scenes.FULL, "plate", 0, 7, (x, n) -> x.join(n, 0));
        });
        Sentence.test(7, "Throws IllegalArgumentException if zero is out of its range", () -> {
            for (List<Scenes.CallOf> scene : Scenes.SOME) {
                Refusals.outOfRange(scene, "zero", -500, 3000, (x, v) -> x.join(0, v));
            }
        });
    }

    private static void promise8() {
        Sentence.test(8, "Tells a STEP.", () -> {
            LightcurveHouse x = Scenes.house(Scenes.FEW);
            int look = x.step(2, 3, 90, 1, 1, 2, 2);
            int[] due = {967, 967, 112, 2, 0, 0};
            for (int what = 0; what < 6; what++) {
                Check.due("what " + what, x.look(look, what), due[what]);
            }
        });
        Sentence.test(8, "star: a STAR", () -> {
            Refusals.indexes(Scenes.FEW, "star", 0, 3, (x, n) -> x.step(n, 0, 0, 0, 1, 1, 1));
            Refusals.indexes(Scenes.times(12, x -> x.star(1)), "star", 0, 11, (x, n) -> x.step(n, 0, 0, 0, 1, 1, 1));
        });
        Sentence.test(8, "watcher: 0 to 7",
                () -> Refusals.indexes(Scenes.FEW, "watcher", 0, 7, (x, n) -> x.step(0, n, 0, 0, 1, 1, 1)));
        Sentence.test(8, "minute: 0 to 9999999", () -> {
            Refusals.arguments(Scenes.FEW, "minute", 0, 9999999, (x, v) -> x.step(0, 0, v, 0, 1, 1, 1));
            LightcurveHouse x = Scenes.plain(1);
            Scenes.see(x, 0, 0, 0);
            Scenes.see(x, 0, 9999999, 0);
            Check.due("the first minute", x.look(0, 2), 0);
            Check.due("the last minute", x.look(1, 2), 9999997);
        });
        Sentence.test(8, "brighter: 0 to 9: the first COMPARISON", () -> {
            Refusals.indexes(Scenes.FEW, "first", 0, 9, (x, n) -> x.step(0, 0, 0, n, 1, 1, 5));
            raw(0, 5, 1, 3, 125);
            raw(9, 5, 1, 3, 800);
        });
        Sentence.test(8, "ahead: 0 to 9: A", () -> {
            Refusals.arguments(Scenes.FEW, "ahead", 0, 9, (x, v) -> x.step(0, 0, 0, 0, v, 5, 1));
            raw(0, 9, 0, 1, 0);
            raw(0, 9, 9, 1, 810);
        });
        Sentence.test(8, "behind: 0 to 9: B", () -> {
            Refusals.arguments(Scenes.FEW, "behind", 0, 9, (x, v) -> x.step(0, 0, 0, 0, 5, v, 1));
            raw(0, 9, 1, 0, 900);
            raw(0, 9, 1, 9, 90);
        });
        Sentence.test(8, "fainter: 0 to 9: the second COMPARISON", () -> {
            Refusals.indexes(Scenes.FEW, "second", 0, 9, (x, n) -> x.step(0, 0, 0, 5, 1, 1, n));
            raw(5, 0, 1, 3, 375);
            raw(5, 9, 1, 3, 600);
        });
        Sentence.test(8, "Returns the number of the LOOK.", () -> {
            LightcurveHouse x = Scenes.plain(2);
            x.plate(0, 0, 1);
            for (int i = 0; i < 80; i++) {
                Check.argument("refused", () -> x.step(0, 0, 0, 0, 1, 1, 0));
                Check.due("number", i % 5 == 4 ? x.density(1, 0, 0) : x.step(i % 2, 0, 0, 0, 1, 1, 1), i);
            }
        });
    }

    /** The raw by two of ten comparisons whose lights are 0, 100 .. 900. */
    private static void raw(int first, int second, int ahead, int behind, int due) {
        LightcurveHouse x = Scenes.plain(1);
        for (int i = 0; i < 10; i++) {
            x.comparison(i, 100 * i);
        }
        x.step(0, 0, 0, first, ahead, behind, second);
        Check.due("between " + first + " and " + second + ", " + ahead + " and " + behind, x.look(0, 0), due);
    }

    private static void promise8Refused() {
        Sentence.test(8, "Throws IndexOutOfBoundsException if there is no such STAR, watcher, or COMPARISON, of both", () -> {
            Refusals.noSuch(Scenes.EMPTY, "star", 0, -1, (x, n) -> x.step(n, 0, 0, 0, 1, 1, 1));
            int[] last = {3, 11};
            for (int i = 0; i < 2; i++) {
                List<Scenes.CallOf> scene = Scenes.SOME.get(i);
                Refusals.noSuch(scene, "star", 0, last[i], (x, n) -> x.step(n, 0, 0, 0, 1, 1, 1));
                Refusals.noSuch(scene, "star, and more", 0, last[i], (x, n) -> x.step(n, 0, -1, 0, 0, 0, 0));
                Refusals.noSuch(scene, "watcher", 0, 7, (x, n) -> x.step(0, n, 0, 0, 1, 1, 1));
                Refusals.noSuch(scene, "watcher, and more", 0, 7, (x, n) -> x.step(0, n, 10000000, 0, 1, 1, 0));
                Refusals.noSuch(scene, "first", 0, 9, (x, n) -> x.step(0, 0, 0, n, 1, 1, 1));
                Refusals.noSuch(scene, "second", 0, 9, (x, n) -> x.step(0, 0, 0, 1, 1, 1, n));
                Refusals.noSuch(scene, "both, the same", 0, 9, (x, n) -> x.step(0, 0, 0, n, 1, 1, n));
                Refusals.noSuch(scene, "second, and no steps", 0, 9, (x, n) -> x.step(0, 0, 0, 1, 0, 0, n));
            }
        });
        Sentence.test(8, "Throws IllegalArgumentException if minute, ahead or behind is out of its range, ahead and behind are "
                + "both 0, or the COMPARISONS are the same", () -> {
            for (List<Scenes.CallOf> scene : Scenes.SOME) {
                Refusals.outOfRange(scene, "minute", 0, 9999999, (x, v) -> x.step(0, 0, v, 0, 1, 1, 1));
                Refusals.outOfRange(scene, "ahead", 0, 9, (x, v) -> x.step(0, 0, 0, 0, v, 5, 1));
                Refusals.outOfRange(scene, "behind", 0, 9, (x, v) -> x.step(0, 0, 0, 0, 5, v, 1));
                Refusals.argument(scene, "both 0", x -> x.step(0, 0, 0, 0, 0, 0, 1));
                Refusals.argument(scene, "ahead out of its range, together 0", x -> x.step(0, 0, 0, 0, -1, 1, 1));
                Refusals.argument(scene, "behind out of its range, together 0", x -> x.step(0, 0, 0, 0, 9, -9, 1));
                Refusals.argument(scene, "together 0 by going round", x -> x.step(0, 0, 0, 0, Scenes.MIN, Scenes.MIN, 1));
                Refusals.argument(scene, "the same, the first one", x -> x.step(0, 0, 0, 0, 1, 1, 0));
                Refusals.argument(scene, "the same, the last one", x -> x.step(0, 0, 0, 9, 1, 1, 9));
                Refusals.argument(scene, "the same, at the first one", x -> x.step(0, 0, 0, 4, 0, 1, 4));
            }
            Refusals.taken(Scenes.FEW, "ahead alone", 1, (x, v) -> x.step(0, 0, 0, 0, v, 0, 1));
            Refusals.taken(Scenes.FEW, "behind alone", 1, (x, v) -> x.step(0, 0, 0, 0, 0, v, 1));
            Refusals.taken(Scenes.FEW, "others of the same light", 4, (x, v) -> x.step(0, 0, 0, v, 1, 1, 5));
        });
        Sentence.test(8, "Throws IllegalStateException if there are 80", () -> {
            List<Scenes.CallOf> most = Scenes.with(List.of(x -> x.star(0)),
                    Scenes.times(80, x -> x.step(0, 0, 0, 0, 1, 1, 1)).toArray(new Scenes.CallOf[0]));
            Refusals.taken(most.subList(0, 80), "the 80th, minute", 0, (x, v) -> x.step(0, 0, v, 0, 1, 1, 1));
            Refusals.state(most, "an 81st", x -> x.step(0, 0, 0, 0, 1, 1, 1));
            Refusals.state(Scenes.with(most, x -> Scenes.bit(x.doubt(0, true))), "an 81st, one doubted",
                    x -> x.step(0, 7, 9999999, 9, 9, 9, 0));
            Refusals.state(Scenes.FULL, "an 81st", x -> x.step(11, 7, 9999999, 9, 9, 9, 0));
        });
    }

    private static void promise9() {
        Sentence.test(9, "Tells a DENSITY.", () -> {
            LightcurveHouse x = Scenes.house(Scenes.FEW);
            int look = x.density(2, 1, 33);
            int[] due = {634, 634, 4993, 2, 0, 1};
            for (int what = 0; what < 6; what++) {
                Check.due("what " + what, x.look(look, what), due[what]);
            }
        });
        Sentence.test(9, "star: a STAR", () -> {
            Refusals.indexes(Scenes.FEW, "star", 0, 3, (x, n) -> x.density(n, 0, 0));
            List<Scenes.CallOf> twelve = Scenes.with(Scenes.times(12, x -> x.star(1)), x -> x.plate(0, 0, 1));
            Refusals.indexes(twelve, "star", 0, 11, (x, n) -> x.density(n, 0, 0));
        });
        Sentence.test(9, "plate: a PLATE", () -> {
            Refusals.indexes(Scenes.FEW, "plate", 0, 1, (x, n) -> x.density(0, n, 0));
            List<Scenes.CallOf> eight = Scenes.with(Scenes.times(8, x -> x.plate(0, 0, 1)), x -> x.star(1));
            Refusals.indexes(eight, "plate", 0, 7, (x, n) -> x.density(0, n, 0));
        });
        Sentence.test(9, "density: 0 to 255", () -> {
            Refusals.arguments(Scenes.FEW, "density", 0, 255, (x, v) -> x.density(0, 0, v));
            LightcurveHouse x = Scenes.plain(1);
            x.plate(0, 3000, 20);
            x.density(0, 0, 0);
            x.density(0, 0, 255);
            Check.due("the least", x.look(0, 0), 3000);
            Check.due("the greatest", x.look(1, 0), 2490);
        });
        Sentence.test(9, "Returns the number of the LOOK.", () -> {
            LightcurveHouse x = Scenes.plain(2);
            x.plate(0, 0, 1);
            for (int i = 0; i < 80; i++) {
                Check.argument("refused", () -> x.density(0, 0, 256));
                Check.due("number", i % 5 == 4 ? x.step(0, 0, 0, 0, 1, 1, 1) : x.density(i % 2, 0, 0), i);
            }
        });
        Sentence.test(9, "Throws IndexOutOfBoundsException if there is no such STAR or PLATE", () -> {
            Refusals.noSuch(Scenes.EMPTY, "star", 0, -1, (x, n) -> x.density(n, 0, 0));
            Refusals.noSuch(List.of(x -> x.star(0)), "plate", 0, -1, (x, n) -> x.density(0, n, 0));
            Refusals.noSuch(List.of(x -> x.plate(0, 0, 1)), "star", 0, -1, (x, n) -> x.density(n, 0, 0));
            Refusals.noSuch(Scenes.FEW, "star", 0, 3, (x, n) -> x.density(n, 0, 0));
            Refusals.noSuch(Scenes.FULL, "star, and more", 0, 11, (x, n) -> x.density(n, 0, 256));
            Refusals.noSuch(Scenes.FEW, "plate", 0, 1, (x, n) -> x.density(0, n, 0));
            Refusals.noSuch(Scenes.FULL, "plate, and more", 0, 7, (x, n) -> x.density(0, n, -1));
        });
        Sentence.test(9, "Throws IllegalArgumentException if density is out of its range", () -> {
            for (List<Scenes.CallOf> scene : Scenes.SOME) {
                Refusals.outOfRange(scene, "density", 0, 255, (x, v) -> x.density(0, 0, v));
            }
        });
        Sentence.test(9, "Throws IllegalStateException if there are 80", () -> {
            List<Scenes.CallOf> most = Scenes.with(List.of(x -> x.star(0), x -> x.plate(0, 0, 1)),
                    Scenes.times(80, x -> x.density(0, 0, 9)).toArray(new Scenes.CallOf[0]));
            Refusals.taken(most.subList(0, 81), "the 80th, density", 0, (x, v) -> x.density(0, 0, v));
            Refusals.state(most, "an 81st", x -> x.density(0, 0, 0));
            Refusals.state(Scenes.with(most, x -> Scenes.bit(x.doubt(79, true))), "an 81st, one doubted",
                    x -> x.density(0, 0, 255));
            Refusals.state(Scenes.FULL, "an 81st", x -> x.density(11, 7, 255));
        });
    }

    private static void promise10() {
        Sentence.test(10, "Tells whether a LOOK is DOUBTED from now on.", () -> {
            LightcurveHouse x = Scenes.four(0, 37, 50, 13);
            Check.due("mean", x.mean(0), 25);
            x.doubt(2, true);
            Check.due("mean without it", x.mean(0), 16);
            Check.due("it is kept", x.look(2, 1), 50);
            Check.due("others are not", x.look(3, 4), 0);
            x.doubt(2, true);
            Check.due("told twice", x.mean(0), 16);
            x.doubt(2, false);
            Check.due("mean with it", x.mean(0), 25);
        });
        Sentence.test(10, "look: a LOOK", () -> {
            Refusals.indexes(Scenes.FEW, "look", 0, 7, (x, n) -> Scenes.bit(x.doubt(n, true)));
            Refusals.indexes(Scenes.FULL, "look", 0, 79, (x, n) -> Scenes.bit(x.doubt(n, true)));
        });
        Sentence.test(10, "is: whether it is", () -> {
            LightcurveHouse x = Scenes.four(0, 37, 50, 13);
            x.doubt(0, false);
            Check.due("it is not", x.look(0, 4), 0);
            x.doubt(0, true);
            Check.due("it is", x.look(0, 4), 1);
        });
        Sentence.test(10, "Returns whether it was.", () -> {
            LightcurveHouse x = Scenes.house(Scenes.FULL);
            Check.due("not at first", x.doubt(0, false), false);
            Check.due("not yet", x.doubt(0, true), false);
            Check.due("it was", x.doubt(0, true), true);
            Check.due("it was", x.doubt(0, false), true);
            Check.due("not any more", x.doubt(0, false), false);
            Check.due("the last one was", x.doubt(79, true), true);
        });
        Sentence.test(10, "Throws IndexOutOfBoundsException if there is no such LOOK", () -> {
            int[] last = {7, 79};
            for (boolean is : new boolean[] {true, false}) {
                Refusals.noSuch(Scenes.EMPTY, "look", 0, -1, (x, n) -> Scenes.bit(x.doubt(n, is)));
                for (int i = 0; i < 2; i++) {
                    Refusals.noSuch(Scenes.SOME.get(i), "look", 0, last[i], (x, n) -> Scenes.bit(x.doubt(n, is)));
                }
            }
        });
    }

    private static void promise11() {
        Sentence.test(11, "Tells a MINIMUM.", () -> {
            LightcurveHouse x = Scenes.plain(2);
            Check.index("not yet", () -> x.cycle(1, 100, 0, true));
            x.minimum(1, 77);
            Check.due("the first one", x.cycle(1, 100, 0, true), 0);
            Check.index("of that star alone", () -> x.cycle(0, 100, 0, true));
            x.minimum(1, 60);
            Check.due("an earlier one", x.cycle(1, 100, 1, true), 17);
        });
        Sentence.test(11, "star: a STAR", () -> {
            Refusals.indexes(Scenes.FEW, "star", 0, 3, (x, n) -> x.minimum(n, 0));
            Refusals.indexes(Scenes.times(12, x -> x.star(1)), "star", 0, 11, (x, n) -> x.minimum(n, 0));
        });
        Sentence.test(11, "minute: 0 to 9999999", () -> {
            Refusals.arguments(Scenes.FEW, "minute", 0, 9999999, (x, v) -> x.minimum(0, v));
            LightcurveHouse x = Scenes.plain(1);
            x.minimum(0, 9999999);
            x.minimum(0, 0);
            Check.due("the last minute by the first", x.cycle(0, 1000000, 1, false), 10);
            Check.due("the last minute by the first", x.cycle(0, 1000000, 1, true), -3);
        });
        Sentence.test(11, "Returns how many were told ahead of it, of all STARS.", () -> {
            LightcurveHouse x = Scenes.plain(12);
            for (int i = 0; i < 30; i++) {
                Check.argument("refused", () -> x.minimum(0, -1));
                Check.due("ahead of it", x.minimum(i * 5 % 12, 3000 - 100 * i), i);
            }
        });
        Sentence.test(11, "Throws IndexOutOfBoundsException if there is no such STAR", () -> {
            Refusals.noSuch(Scenes.EMPTY, "star", 0, -1, (x, n) -> x.minimum(n, 0));
            Refusals.noSuch(Scenes.FEW, "star", 0, 3, (x, n) -> x.minimum(n, 0));
            Refusals.noSuch(Scenes.FULL, "star", 0, 11, (x, n) -> x.minimum(n, 0));
            Refusals.noSuch(Scenes.FULL, "star, and more", 0, 11, (x, n) -> x.minimum(n, 10000000));
        });
        Sentence.test(11, "Throws IllegalArgumentException if minute is out of its range", () -> {
            for (List<Scenes.CallOf> scene : Scenes.SOME) {
                Refusals.outOfRange(scene, "minute", 0, 9999999, (x, v) -> x.minimum(0, v));
            }
        });
        Sentence.test(11, "Throws IllegalStateException if there are 30", () -> {
            List<Scenes.CallOf> most = Scenes.with(List.of(x -> x.star(0), x -> x.star(0)),
                    Scenes.times(30, x -> x.minimum(0, 7)).toArray(new Scenes.CallOf[0]));
            Refusals.taken(most.subList(0, 31), "the 30th, minute", 0, (x, v) -> x.minimum(1, v));
            Refusals.state(most, "a 31st", x -> x.minimum(0, 0));
            Refusals.state(most, "a 31st, of another star", x -> x.minimum(1, 9999999));
            Refusals.state(Scenes.FULL, "a 31st", x -> x.minimum(11, 0));
        });
    }
}
