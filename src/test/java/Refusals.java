import java.util.IdentityHashMap;
import java.util.List;
import java.util.Map;

/** Calls that the document refuses: each throws the very exception, and every later answer is as if it had not been made. */
final class Refusals {
    interface CallWith { long answer(LightcurveHouse x, int value); }

    private static final Map<List<Scenes.CallOf>, List<Object>> UNTOUCHED = new IdentityHashMap<>();

    private Refusals() { }

    static void index(List<Scenes.CallOf> scene, String what, Scenes.CallOf call) {
        LightcurveHouse x = Scenes.house(scene);
        Check.index(what, () -> call.answer(x));
        changesNothing(scene, what, List.of(call));
    }

    static void argument(List<Scenes.CallOf> scene, String what, Scenes.CallOf call) {
        LightcurveHouse x = Scenes.house(scene);
        Check.argument(what, () -> call.answer(x));
        changesNothing(scene, what, List.of(call));
    }

    static void state(List<Scenes.CallOf> scene, String what, Scenes.CallOf call) {
        LightcurveHouse x = Scenes.house(scene);
        Check.state(what, () -> call.answer(x));
        changesNothing(scene, what, List.of(call));
    }

    static void changesNothing(List<Scenes.CallOf> scene, String what, List<Scenes.CallOf> refused) {
        List<Object> due = UNTOUCHED.computeIfAbsent(scene, any -> Portrait.of(scene, List.of()));
        List<Object> got = Portrait.of(scene, refused);
        if (!got.equals(due)) {
            Check.wrong(what + ", refused, changes later answers");
        }
    }

    /** There are those from the least to the most: both ends are taken, and those beyond are refused. */
    static void indexes(List<Scenes.CallOf> scene, String what, int least, int most, CallWith call) {
        taken(scene, what, least, call);
        taken(scene, what, most, call);
        noSuch(scene, what, least, most, call);
    }

    /** The range is from the least to the most: both ends are taken, and those beyond are refused. */
    static void arguments(List<Scenes.CallOf> scene, String what, int least, int most, CallWith call) {
        taken(scene, what, least, call);
        taken(scene, what, most, call);
        outOfRange(scene, what, least, most, call);
    }

    static void noSuch(List<Scenes.CallOf> scene, String what, int least, int most, CallWith call) {
        for (int wrong : Check.outside(least, most)) {
            index(scene, what + " " + wrong, x -> call.answer(x, wrong));
        }
    }

    static void outOfRange(List<Scenes.CallOf> scene, String what, int least, int most, CallWith call) {
        for (int wrong : Check.outside(least, most)) {
            argument(scene, what + " " + wrong, x -> call.answer(x, wrong));
        }
    }

    static void taken(List<Scenes.CallOf> scene, String what, int value, CallWith call) {
        try {
            call.answer(Scenes.house(scene), value);
        } catch (RuntimeException e) {
            Check.wrong(what + " " + value + " threw " + e + ", but is to be taken");
        }
    }
}
