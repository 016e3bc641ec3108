import java.util.ArrayList;
import java.util.List;

/**
 * What a house answers after it was told a scene, by reading calls and by telling ones: one more of everything
 * is asked for than can be there. It comes in parts, each of another house, since a house is used for at most
 * 512 calls.
 */
final class Portrait {
    private static final int MOST_CALLS = 512, PARTS = 8;

    private final List<Object> answers = new ArrayList<>();
    private final LightcurveHouse x;
    private int calls;

    private Portrait(LightcurveHouse x, int calls) {
        this.x = x;
        this.calls = calls;
    }

    /** The house's answers after the scene, and after those calls, which are refused and thus should change nothing. */
    static List<Object> of(List<Scenes.CallOf> scene, List<Scenes.CallOf> refused) {
        List<Object> all = new ArrayList<>();
        for (int part = 0; part < PARTS; part++) {
            Portrait portrait = new Portrait(Scenes.house(scene), scene.size());
            for (Scenes.CallOf call : refused) {
                portrait.ask(call);
            }
            portrait.answers.clear();
            portrait.askPart(part);
            all.addAll(portrait.answers);
        }
        return all;
    }

    private void ask(Scenes.CallOf call) {
        calls++;
        if (calls > MOST_CALLS) {
            Check.wrong("a house is used for more than " + MOST_CALLS + " calls");
        }
        try {
            answers.add(call.answer(x));
        } catch (RuntimeException e) {
            answers.add(e.getClass());
        }
    }

    private void askPart(int part) {
        switch (part) {
            case 0 -> looks(0, 41);
            case 1 -> looks(41, 81);
            case 2 -> entries();
            case 3 -> features();
            case 4 -> minima();
            case 5 -> trials();
            case 6 -> whatItWas();
            default -> whatIsAdded();
        }
    }

    private void looks(int from, int to) {
        for (int i = from; i < to; i++) {
            int look = i;
            for (int what = 0; what < 6; what++) {
                int asked = what;
                ask(y -> y.look(look, asked));
            }
        }
    }

    private void entries() {
        for (int i = -1; i < 13; i++) {
            int at = i;
            ask(y -> y.entries(at));
            ask(y -> y.nearest(at));
            ask(y -> y.entry(at));
            ask(y -> y.mean(at));
            ask(y -> y.modulus(at));
            ask(y -> y.string(at, 100));
            ask(y -> y.lost(at, 100));
        }
        for (int i = 0; i < 12; i++) {
            int star = i;
            for (int j = 0; j < 12; j += 5) {
                int other = j;
                ask(y -> y.together(star, other, 177));
            }
        }
    }

    private void features() {
        for (int i = 0; i < 12; i++) {
            int star = i;
            ask(y -> y.kind(star));
            for (int j = 0; j < 5; j++) {
                int number = j;
                ask(y -> y.feature(star, number));
                ask(y -> y.votes(star, number));
            }
        }
    }

    private void minima() {
        for (int i = 0; i < 12; i++) {
            int star = i;
            for (int j = 0; j < 10; j++) {
                int place = j;
                ask(y -> y.cycle(star, 97, place, true));
                ask(y -> y.cycle(star, 97, place, false));
            }
        }
    }

    private void trials() {
        for (int i = 0; i < 12; i++) {
            int star = i;
            ask(y -> y.period(star, 30, 450, 60));
            ask(y -> y.aliases(star, 30, 450, 60, 20));
        }
    }

    private void whatItWas() {
        for (int i = 0; i < 12; i++) {
            int number = i;
            ask(y -> y.comparison(number, 1200));
            ask(y -> y.bias(number, 5));
            ask(y -> y.clock(number, 6));
            ask(y -> y.join(number, 7));
            ask(y -> y.dust(number, 8));
            ask(y -> y.claim(number, 99));
            ask(y -> Scenes.bit(y.withdraw(number, false)));
            ask(y -> y.modulus(number));
        }
        ask(y -> y.zero(3));
        for (int i = 0; i < 81; i++) {
            int look = i;
            ask(y -> Scenes.bit(y.doubt(look, false)));
        }
        ask(y -> y.nearest(0));
    }

    private void whatIsAdded() {
        for (int i = 0; i < 13; i++) {
            ask(y -> y.star(5));
            ask(y -> y.plate(50, 600, 7));
            ask(y -> y.rule(1, LightcurveHouse.PERIOD, 0, 900, 1));
        }
        for (int i = 0; i < 31; i++) {
            int minute = i * 3;
            ask(y -> y.minimum(0, minute));
        }
        for (int i = 0; i < 81; i++) {
            int minute = i * 7;
            ask(y -> y.step(0, 0, minute, 0, 1, 1, 1));
        }
        for (int i = 11; i > 0; i--) {
            int star = i;
            ask(y -> y.merge(star, 0));
            ask(y -> y.split(star / 2));
            ask(y -> y.mean(star));
        }
    }
}
