import java.util.List;

/** The calls that name something by its number, a row for each argument that does, and all calls for which several exceptions apply. */
final class WrongCalls {
    static final List<Refusals.CallWith> OF_STAR = List.of(
            (x, n) -> x.step(n, 0, 0, 0, 1, 1, 1), (x, n) -> x.density(n, 0, 0), (x, n) -> x.minimum(n, 0),
            (x, n) -> x.merge(n, 0), (x, n) -> x.merge(0, n), (x, n) -> x.split(n), (x, n) -> x.entry(n),
            (x, n) -> x.string(n, 100), (x, n) -> x.together(n, 0, 100), (x, n) -> x.together(0, n, 100),
            (x, n) -> x.period(n, 100, 100, 1), (x, n) -> x.aliases(n, 100, 100, 1, 0), (x, n) -> x.claim(n, 100),
            (x, n) -> x.feature(n, 0), (x, n) -> x.votes(n, 0), (x, n) -> x.kind(n),
            (x, n) -> x.cycle(n, 100, 0, true), (x, n) -> x.lost(n, 100), (x, n) -> x.dust(n, 1),
            (x, n) -> x.mean(n), (x, n) -> x.modulus(n));
    static final List<Refusals.CallWith> OF_COMPARISON = List.of((x, n) -> x.comparison(n, 7),
            (x, n) -> x.step(0, 0, 0, n, 1, 1, 5), (x, n) -> x.step(0, 0, 0, 5, 1, 1, n));
    static final List<Refusals.CallWith> OF_WATCHER = List.of((x, n) -> x.bias(n, 7), (x, n) -> x.clock(n, 7),
            (x, n) -> x.step(0, n, 0, 0, 1, 1, 1));
    static final List<Refusals.CallWith> OF_PLATE = List.of((x, n) -> x.join(n, 7), (x, n) -> x.density(0, n, 0));
    static final List<Refusals.CallWith> OF_LOOK = List.of((x, n) -> Scenes.bit(x.doubt(n, true)), (x, n) -> x.look(n, 0));
    static final List<Refusals.CallWith> OF_RULE = List.of((x, n) -> Scenes.bit(x.withdraw(n, true)));

    /** An argument of a call on FEW, and its range. */
    record Argument(String what, int least, int most, Refusals.CallWith call) { }

    static final List<Argument> ARGUMENTS = List.of(
            new Argument("comparison: light", -200, 2000, (x, v) -> x.comparison(0, v)),
            new Argument("star: place", 0, 363, (x, v) -> x.star(v)),
            new Argument("bias: bias", -99, 99, (x, v) -> x.bias(0, v)),
            new Argument("clock: minutes", -1440, 1440, (x, v) -> x.clock(0, v)),
            new Argument("plate: minute", 0, 9999999, (x, v) -> x.plate(v, 0, 1)),
            new Argument("plate: zero", -500, 3000, (x, v) -> x.plate(0, v, 1)),
            new Argument("plate: slope", 1, 20, (x, v) -> x.plate(0, 0, v)),
            new Argument("join: zero", -500, 3000, (x, v) -> x.join(0, v)),
            new Argument("step: minute", 0, 9999999, (x, v) -> x.step(0, 0, v, 0, 1, 1, 1)),
            new Argument("step: ahead", 0, 9, (x, v) -> x.step(0, 0, 0, 0, v, 5, 1)),
            new Argument("step: behind", 0, 9, (x, v) -> x.step(0, 0, 0, 0, 5, v, 1)),
            new Argument("density: density", 0, 255, (x, v) -> x.density(0, 0, v)),
            new Argument("minimum: minute", 0, 9999999, (x, v) -> x.minimum(0, v)),
            new Argument("look: what", 0, 5, (x, v) -> x.look(0, v)),
            new Argument("string: period", 30, 1000000, (x, v) -> x.string(0, v)),
            new Argument("together: period", 30, 1000000, (x, v) -> x.together(0, 1, v)),
            new Argument("period: from", 30, 1000000, (x, v) -> x.period(0, v, 1000000, 1000000)),
            new Argument("period: to", 500, 1000000, (x, v) -> x.period(0, 500, v, 1000000)),
            new Argument("period: step", 1, 1000000, (x, v) -> x.period(0, 500, 500, v)),
            new Argument("aliases: from", 30, 1000000, (x, v) -> x.aliases(0, v, 1000000, 1000000, 0)),
            new Argument("aliases: to", 500, 1000000, (x, v) -> x.aliases(0, 500, v, 1000000, 0)),
            new Argument("aliases: step", 1, 1000000, (x, v) -> x.aliases(0, 500, 500, v, 0)),
            new Argument("aliases: percent", 0, 50, (x, v) -> x.aliases(0, 500, 500, 1, v)),
            new Argument("feature: feature", 0, 2, (x, v) -> x.feature(0, v)),
            new Argument("rule: kind", 0, 4, (x, v) -> x.rule(v, 0, 0, 0, 1)),
            new Argument("rule: feature", 0, 2, (x, v) -> x.rule(0, v, 0, 0, 1)),
            new Argument("rule: from", 0, 500, (x, v) -> x.rule(0, 0, v, 500, 1)),
            new Argument("rule: to", 500, 1000000, (x, v) -> x.rule(0, 0, 500, v, 1)),
            new Argument("rule: votes", -9, 9, (x, v) -> x.rule(0, 0, 0, 0, v)),
            new Argument("votes: kind", 0, 4, (x, v) -> x.votes(0, v)),
            new Argument("cycle: period", 30, 1000000, (x, v) -> x.cycle(0, v, 0, true)),
            new Argument("lost: period", 30, 1000000, (x, v) -> x.lost(0, v)),
            new Argument("dust: dust", 0, 500, (x, v) -> x.dust(0, v)),
            new Argument("zero: zero", -1000, 1000, (x, v) -> x.zero(v)));

    /** On FULL, where star 11 has no look and no minimum: no such thing, another argument out of its range, and full. */
    static final List<Scenes.CallOf> INDEX_FIRST = List.of(
            x -> x.comparison(10, 2001), x -> x.bias(8, 100), x -> x.clock(-1, -1441), x -> x.join(8, 3001),
            x -> x.step(12, 0, 0, 0, 1, 1, 1), x -> x.step(12, 0, -1, 0, 1, 1, 1), x -> x.step(12, 0, 0, 0, 0, 0, 1),
            x -> x.step(0, 8, 0, 0, 10, 1, 1), x -> x.step(0, 8, 0, 4, 1, 1, 4), x -> x.step(0, 0, 0, 10, 1, 10, 1),
            x -> x.step(0, 0, 0, 10, 1, 1, 10), x -> x.step(0, 0, 10000000, 1, 1, 1, 10), x -> x.step(0, 0, 0, -1, 1, 1, -1),
            x -> x.density(12, 0, 0), x -> x.density(12, 0, 256), x -> x.density(0, 8, 0), x -> x.density(0, 8, -1),
            x -> x.minimum(12, 0), x -> x.minimum(12, -1), x -> x.minimum(-1, 10000000),
            x -> x.merge(12, 12), x -> x.merge(-1, -1), x -> x.look(80, 6), x -> x.look(-1, -1),
            x -> x.string(12, 29), x -> x.together(12, 0, 29), x -> x.together(0, 12, 1000001),
            x -> x.period(12, 29, 29, 0), x -> x.period(12, 30, 230, 1), x -> x.aliases(12, 30, 29, 1, 51),
            x -> x.aliases(-1, 30, 230, 1, 0), x -> x.claim(12, 29), x -> x.feature(12, 3), x -> x.votes(12, 5),
            x -> x.cycle(12, 29, 0, true), x -> x.cycle(0, 29, 30, true), x -> x.cycle(0, 29, -1, false),
            x -> x.cycle(11, 1000001, 0, false), x -> x.lost(12, 29), x -> x.dust(12, 501));
    static final List<Scenes.CallOf> ARGUMENT_FIRST = List.of(
            x -> x.star(-1), x -> x.star(364), x -> x.plate(-1, 0, 1), x -> x.plate(0, 3001, 1), x -> x.plate(0, 0, 21),
            x -> x.step(0, 0, -1, 0, 1, 1, 1), x -> x.step(0, 0, 0, 0, 10, 1, 1), x -> x.step(0, 0, 0, 0, 1, -1, 1),
            x -> x.step(0, 0, 0, 0, 0, 0, 1), x -> x.step(0, 0, 0, 4, 1, 1, 4), x -> x.density(0, 0, 256),
            x -> x.minimum(0, 10000000), x -> x.period(11, 29, 30, 1), x -> x.period(11, 30, 29, 1),
            x -> x.period(11, 30, 30, 0), x -> x.period(11, 30, 230, 1), x -> x.aliases(11, 30, 1000001, 5000, 0),
            x -> x.aliases(11, 30, 230, 1, 0), x -> x.aliases(11, 30, 30, 1, 51), x -> x.feature(11, 3),
            x -> x.rule(5, 0, 0, 0, 1), x -> x.rule(0, 3, 0, 0, 1), x -> x.rule(0, 0, 1, 0, 1), x -> x.rule(0, 0, 0, 0, 0),
            x -> x.votes(11, -1));
    static final List<Scenes.CallOf> STATE_ALONE = List.of(
            x -> x.star(0), x -> x.plate(0, 0, 1), x -> x.step(0, 0, 0, 0, 1, 1, 1), x -> x.density(0, 0, 0),
            x -> x.minimum(0, 0), x -> x.merge(0, 0), x -> x.merge(2, 9), x -> x.split(11), x -> x.period(11, 30, 30, 1),
            x -> x.aliases(11, 30, 30, 1, 0), x -> x.feature(11, 0), x -> x.rule(0, 0, 0, 0, 1), x -> x.votes(11, 0),
            x -> x.kind(11), x -> x.mean(11), x -> x.modulus(11));

    private WrongCalls() { }
}
