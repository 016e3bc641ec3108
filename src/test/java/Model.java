import java.util.ArrayList;
import java.util.Comparator;
import java.util.List;
import java.util.TreeMap;
import java.util.TreeSet;

/**
 * The document's words once more, as plainly as can be and with the whole library, to hold
 * LightcurveHouse against: whole copies instead of rows, sets of stars instead of labels, long for int.
 */
final class Model {
    private static final class Seen {
        long star, raw, light, time, number;
    }

    private final long[] lights = new long[10];
    private final long[] bias = new long[8], clock = new long[8];
    private final List<long[]> stars = new ArrayList<>();    // place, claim, dust
    private final List<TreeSet<Integer>> entries = new ArrayList<>();
    private final List<long[]> plates = new ArrayList<>();   // minute, zero, slope
    private final List<long[]> looks = new ArrayList<>();    // sort, then what was told
    private final List<Boolean> doubted = new ArrayList<>();
    private final List<long[]> rules = new ArrayList<>();
    private final List<Boolean> withdrawn = new ArrayList<>();
    private final List<long[]> minima = new ArrayList<>();   // star, minute
    private long zero = 0;

    Model() {
        java.util.Arrays.fill(lights, 1000);
    }

    private static void index(boolean good) {
        if (!good) throw new IndexOutOfBoundsException();
    }

    private static void argument(boolean good) {
        if (!good) throw new IllegalArgumentException();
    }

    private static void state(boolean good) {
        if (!good) throw new IllegalStateException();
    }

    private static boolean in(long x, long least, long most) {
        return least <= x && x <= most;
    }

    private void needStar(int star) {
        index(in(star, 0, stars.size() - 1));
    }

    private static long down(long x, long by) {
        long q = x / by;
        return q * by > x ? q - 1 : q;
    }

    private static long rest(long x, long by) {
        return x - down(x, by) * by;
    }

    public int comparison(int comparison, int light) {
        index(in(comparison, 0, 9));
        argument(in(light, -200, 2000));
        long was = lights[comparison];
        lights[comparison] = light;
        return (int) was;
    }

    public int star(int place) {
        argument(in(place, 0, 363));
        state(stars.size() < 12);
        stars.add(new long[] {place, 0, 0});
        entries.add(new TreeSet<>(List.of(stars.size() - 1)));
        return stars.size() - 1;
    }

    public int bias(int watcher, int to) {
        index(in(watcher, 0, 7));
        argument(in(to, -99, 99));
        long was = bias[watcher];
        bias[watcher] = to;
        return (int) was;
    }

    public int clock(int watcher, int to) {
        index(in(watcher, 0, 7));
        argument(in(to, -1440, 1440));
        long was = clock[watcher];
        clock[watcher] = to;
        return (int) was;
    }

    public int plate(int minute, int zero, int slope) {
        argument(in(minute, 0, 9999999) && in(zero, -500, 3000) && in(slope, 1, 20));
        state(plates.size() < 8);
        plates.add(new long[] {minute, zero, slope});
        return plates.size() - 1;
    }

    public int join(int plate, int zero) {
        index(in(plate, 0, plates.size() - 1));
        argument(in(zero, -500, 3000));
        long was = plates.get(plate)[1];
        plates.get(plate)[1] = zero;
        return (int) was;
    }

    public int step(int star, int watcher, int minute, int brighter, int ahead, int behind, int fainter) {
        needStar(star);
        index(in(watcher, 0, 7) && in(brighter, 0, 9) && in(fainter, 0, 9));
        argument(in(minute, 0, 9999999) && in(ahead, 0, 9) && in(behind, 0, 9));
        argument((ahead != 0 || behind != 0) && brighter != fainter);
        state(looks.size() < 80);
        looks.add(new long[] {0, star, watcher, minute, brighter, ahead, behind, fainter});
        doubted.add(false);
        return looks.size() - 1;
    }

    public int density(int star, int plate, int density) {
        needStar(star);
        index(in(plate, 0, plates.size() - 1));
        argument(in(density, 0, 255));
        state(looks.size() < 80);
        looks.add(new long[] {1, star, plate, density});
        doubted.add(false);
        return looks.size() - 1;
    }

    public boolean doubt(int look, boolean is) {
        index(in(look, 0, looks.size() - 1));
        return doubted.set(look, is);
    }

    public int minimum(int star, int minute) {
        needStar(star);
        argument(in(minute, 0, 9999999));
        state(minima.size() < 30);
        minima.add(new long[] {star, minute});
        return minima.size() - 1;
    }

    public int merge(int star, int other) {
        needStar(star);
        needStar(other);
        TreeSet<Integer> all = new TreeSet<>(entries.get(star));
        state(!all.contains(other));
        all.addAll(entries.get(other));
        for (int each : all) entries.set(each, all);
        return all.first();
    }

    public int split(int star) {
        needStar(star);
        state(entries.get(star).size() > 1);
        TreeSet<Integer> others = new TreeSet<>(entries.get(star));
        others.remove(star);
        for (int each : others) entries.set(each, others);
        entries.set(star, new TreeSet<>(List.of(star)));
        return others.first();
    }

    public int entry(int star) {
        needStar(star);
        return entries.get(star).first();
    }

    private List<Integer> allEntries() {
        TreeSet<Integer> all = new TreeSet<>();
        for (TreeSet<Integer> entry : entries) all.add(entry.first());
        return new ArrayList<>(all);
    }

    public int entries(int place) {
        index(place >= -1);
        List<Integer> all = allEntries();
        return place == -1 ? all.size() : place < all.size() ? all.get(place) : -1;
    }

    private long arrival(long star, long minute) {
        long k = rest(down(minute, 1440) + stars.get((int) star)[0], 364);
        long m = k < 364 - k ? k : 364 - k;
        return minute + 8 - down(16 * m, 182);
    }

    private Seen seen(int number) {
        long[] told = looks.get(number);
        Seen seen = new Seen();
        seen.number = number;
        seen.star = told[1];
        if (told[0] == 0) {
            long first = lights[(int) told[4]], second = lights[(int) told[7]];
            seen.raw = first + down((second - first) * told[5], told[5] + told[6]);
            seen.light = seen.raw - bias[(int) told[2]];
            seen.time = arrival(told[1], told[3]) - clock[(int) told[2]];
        } else {
            long[] plate = plates.get((int) told[2]);
            seen.raw = plate[1] - down(told[3] * plate[2], 10);
            seen.light = seen.raw;
            seen.time = arrival(told[1], plate[0]);
        }
        return seen;
    }

    public int look(int look, int what) {
        index(in(look, 0, looks.size() - 1));
        argument(in(what, 0, 5));
        Seen seen = seen(look);
        long[] all = {seen.raw, seen.light, seen.time, seen.star, doubted.get(look) ? 1 : 0, looks.get(look)[0]};
        return (int) all[what];
    }

    private List<Seen> looksOf(TreeSet<Integer> of) {
        List<Seen> all = new ArrayList<>();
        for (int i = 0; i < looks.size(); i++) {
            if (!doubted.get(i) && of.contains((int) looks.get(i)[1])) all.add(seen(i));
        }
        return all;
    }

    private static long stringOf(List<Seen> all, long period) {
        List<Seen> row = new ArrayList<>(all);
        row.sort(Comparator.comparingLong((Seen s) -> rest(s.time, period))
                .thenComparingLong(s -> s.time).thenComparingLong(s -> s.number));
        long sum = 0;
        for (int i = 0; i < row.size(); i++) {
            sum += Math.abs(row.get(i).light - row.get((i + 1) % row.size()).light);
        }
        return sum;
    }

    public int string(int star, int period) {
        return together(star, star, period);
    }

    public int together(int star, int other, int period) {
        needStar(star);
        needStar(other);
        argument(in(period, 30, 1000000));
        TreeSet<Integer> both = new TreeSet<>(entries.get(star));
        both.addAll(entries.get(other));
        return (int) stringOf(looksOf(both), period);
    }

    private TreeMap<Integer, Long> trials(int star, int from, int to, int step, boolean isGood) {
        needStar(star);
        argument(in(from, 30, 1000000) && in(to, from, 1000000) && in(step, 1, 1000000) && isGood);
        List<Integer> periods = new ArrayList<>();
        for (long p = from; p <= to && periods.size() < 201; p += step) periods.add((int) p);
        argument(periods.size() <= 200);
        List<Seen> all = looksOf(entries.get(star));
        state(all.size() >= 3);
        TreeMap<Integer, Long> strings = new TreeMap<>();
        for (int p : periods) strings.put(p, stringOf(all, p));
        return strings;
    }

    private static int best(TreeMap<Integer, Long> strings) {
        int best = strings.firstKey();
        for (int p : strings.descendingKeySet()) if (strings.get(p) <= strings.get(best)) best = p;
        return best;
    }

    public int period(int star, int from, int to, int step) {
        return best(trials(star, from, to, step, true));
    }

    public int aliases(int star, int from, int to, int step, int percent) {
        TreeMap<Integer, Long> strings = trials(star, from, to, step, in(percent, 0, 50));
        int best = best(strings);
        int count = 0;
        for (int p : strings.keySet()) {
            if (p != best && 100 * strings.get(p) <= (100 + percent) * strings.get(best)) count++;
        }
        return count;
    }

    public int claim(int star, int period) {
        needStar(star);
        argument(period == 0 || in(period, 30, 1000000));
        long was = stars.get(star)[1];
        stars.get(star)[1] = period;
        return (int) was;
    }

    private long claimOf(TreeSet<Integer> entry) {
        for (int star : entry) if (stars.get(star)[1] != 0) return stars.get(star)[1];
        return 0;
    }

    private long featureOf(TreeSet<Integer> entry, long feature) {
        long claim = claimOf(entry);
        List<Seen> all = looksOf(entry);
        state(claim != 0 && !all.isEmpty());
        Comparator<Seen> earlier = Comparator.comparingLong((Seen s) -> s.time).thenComparingLong(s -> s.number);
        all.sort(Comparator.comparingLong((Seen s) -> s.light).thenComparing(earlier));
        Seen bright = all.get(0);
        all.sort(Comparator.comparingLong((Seen s) -> -s.light).thenComparing(earlier));
        Seen faint = all.get(0);
        long rise = down(rest(bright.time - faint.time, claim) * 100, claim);
        return new long[] {faint.light - bright.light, claim, rise}[(int) feature];
    }

    public int feature(int star, int feature) {
        needStar(star);
        argument(in(feature, 0, 2));
        return (int) featureOf(entries.get(star), feature);
    }

    public int rule(int kind, int feature, int from, int to, int votes) {
        argument(in(kind, 0, 4) && in(feature, 0, 2) && in(from, 0, 1000000) && in(to, from, 1000000));
        argument(in(votes, -9, 9) && votes != 0);
        state(rules.size() < 8);
        rules.add(new long[] {kind, feature, from, to, votes});
        withdrawn.add(false);
        return rules.size() - 1;
    }

    public boolean withdraw(int rule, boolean is) {
        index(in(rule, 0, rules.size() - 1));
        return withdrawn.set(rule, is);
    }

    public int votes(int star, int kind) {
        needStar(star);
        argument(in(kind, 0, 4));
        featureOf(entries.get(star), 0);
        int sum = 0;
        for (int i = 0; i < rules.size(); i++) {
            long[] rule = rules.get(i);
            if (withdrawn.get(i) || rule[0] != kind) continue;
            if (in(featureOf(entries.get(star), rule[1]), rule[2], rule[3])) sum += rule[4];
        }
        return sum;
    }

    public int kind(int star) {
        int best = -1;
        for (int kind = 4; kind >= 0; kind--) {
            int votes = votes(star, kind);
            if (votes > 0 && (best == -1 || votes >= votes(star, best))) best = kind;
        }
        return best;
    }

    private List<Long> minimaOf(int star) {
        List<Long> times = new ArrayList<>();
        for (long[] minimum : minima) {
            if (entries.get(star).contains((int) minimum[0])) times.add(arrival(minimum[0], minimum[1]));
        }
        times.sort(null);
        return times;
    }

    private static long[] cycleAndOffset(List<Long> times, int place, long period) {
        long d = times.get(place) - times.get(0);
        long cycle = down(2 * d + period, 2 * period);
        return new long[] {cycle, d - cycle * period};
    }

    public int cycle(int star, int period, int place, boolean isOffset) {
        needStar(star);
        List<Long> times = minimaOf(star);
        index(in(place, 0, times.size() - 1));
        argument(in(period, 30, 1000000));
        return (int) cycleAndOffset(times, place, period)[isOffset ? 1 : 0];
    }

    public int lost(int star, int period) {
        needStar(star);
        argument(in(period, 30, 1000000));
        List<Long> times = minimaOf(star);
        int count = 0;
        for (int i = 0; i + 1 < times.size(); i++) {
            long one = cycleAndOffset(times, i, period)[1], next = cycleAndOffset(times, i + 1, period)[1];
            if (4 * Math.abs(one - next) > period) count++;
        }
        return count;
    }

    public int dust(int star, int dust) {
        needStar(star);
        argument(in(dust, 0, 500));
        long was = stars.get(star)[2];
        stars.get(star)[2] = dust;
        return (int) was;
    }

    public int zero(int to) {
        argument(in(to, -1000, 1000));
        long was = zero;
        zero = to;
        return (int) was;
    }

    public int mean(int star) {
        needStar(star);
        List<Seen> all = looksOf(entries.get(star));
        state(!all.isEmpty());
        long sum = 0;
        for (Seen seen : all) sum += seen.light;
        return (int) down(sum, all.size());
    }

    public int modulus(int star) {
        int mean = mean(star);
        long claim = claimOf(entries.get(star));
        state(claim != 0);
        int log = Long.toBinaryString(claim).length() - 1;
        return (int) (mean - stars.get(entries.get(star).first())[2] - zero + 75 * log);
    }

    public int nearest(int place) {
        index(place >= 0);
        List<long[]> all = new ArrayList<>();
        for (int entry : allEntries()) {
            try {
                all.add(new long[] {modulus(entry), entry});
            } catch (IllegalStateException e) {
                continue;
            }
        }
        all.sort(Comparator.comparingLong((long[] pair) -> pair[0]).thenComparingLong(pair -> pair[1]));
        return place < all.size() ? (int) all.get(place)[1] : -1;
    }
}
