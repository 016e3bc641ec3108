import java.util.ArrayList;

/**
 * Variable stars: what was seen of them is kept as it was told, and light, times, periods, classes,
 * cycles and distances are reckoned anew in each call, since what they rest on may be told anew.
 */
public final class LightcurveHouse {
    public static final int NONE = -1;
    public static final int AMPLITUDE = 0, PERIOD = 1, RISE = 2;

    private static final int MOST_STARS = 12;
    private static final int MOST_PLATES = 8;
    private static final int MOST_LOOKS = 80;
    private static final int MOST_RULES = 8;
    private static final int MOST_MINIMA = 30;
    private static final int MOST_TRIALS = 200;
    private static final int COMPARISONS = 10;
    private static final int WATCHERS = 8;
    private static final int CLASSES = 5;

    private static final int FIRST_LIGHT = 1000;
    private static final int LAST_MINUTE = 9999999;
    private static final int SHORTEST_PERIOD = 30;
    private static final int LONGEST_PERIOD = 1000000;
    private static final int FEWEST_LOOKS_FOR_TRIALS = 3;
    private static final int MODULUS_OF_A_HALVING = 75;

    private static final int MINUTES_OF_A_DAY = 1440;
    private static final int DAYS_OF_A_ROUND = 364;
    private static final int DAYS_OF_HALF_A_ROUND = 182;
    private static final int MOST_LATE = 8;

    private static final int OF_RAW = 0, OF_LIGHT = 1, OF_TIME = 2, OF_STAR = 3, OF_DOUBT = 4, OF_SORT = 5;
    private static final int SORT_STEP = 0, SORT_DENSITY = 1;

    private final ArrayList<Comparison> comparisons = new ArrayList<>();
    private final ArrayList<Watcher> watchers = new ArrayList<>();
    private final ArrayList<Star> stars = new ArrayList<>();
    private final ArrayList<Plate> plates = new ArrayList<>();
    private final ArrayList<Look> looks = new ArrayList<>();
    private final ArrayList<Rule> rules = new ArrayList<>();
    private final ArrayList<Minimum> minima = new ArrayList<>();
    private int ladderZero = 0;

    // Rows to reckon in: nothing in them outlives a call, they are kept so that no call makes new ones.
    private final Row curve = new Row(MOST_LOOKS);
    private final Row folded = new Row(MOST_LOOKS);
    private final Row eclipses = new Row(MOST_MINIMA);
    private final Row ladder = new Row(MOST_STARS);
    private final int[] trialStrings = new int[MOST_TRIALS];

    public LightcurveHouse() {
        for (int i = 0; i < COMPARISONS; i++) {
            comparisons.add(new Comparison());
        }
        for (int i = 0; i < WATCHERS; i++) {
            watchers.add(new Watcher());
        }
    }

    // ---- what is told

    public int comparison(int comparison, int light) throws IndexOutOfBoundsException, IllegalArgumentException {
        Comparison told = comparisonAt(comparison);
        needRange(light, -200, 2000);
        int before = told.light;
        told.light = light;
        return before;
    }

    public int star(int place) throws IllegalArgumentException, IllegalStateException {
        needRange(place, 0, DAYS_OF_A_ROUND - 1);
        int number = stars.size();
        needRoom(number, MOST_STARS);
        stars.add(new Star(number, place));
        return number;
    }

    public int bias(int watcher, int bias) throws IndexOutOfBoundsException, IllegalArgumentException {
        Watcher told = watcherAt(watcher);
        needRange(bias, -99, 99);
        int before = told.bias;
        told.bias = bias;
        return before;
    }

    public int clock(int watcher, int minutes) throws IndexOutOfBoundsException, IllegalArgumentException {
        Watcher told = watcherAt(watcher);
        needRange(minutes, -MINUTES_OF_A_DAY, MINUTES_OF_A_DAY);
        int before = told.clock;
        told.clock = minutes;
        return before;
    }

    public int plate(int minute, int zero, int slope) throws IllegalArgumentException, IllegalStateException {
        needRange(minute, 0, LAST_MINUTE);
        needPlateZero(zero);
        needRange(slope, 1, 20);
        int number = plates.size();
        needRoom(number, MOST_PLATES);
        plates.add(new Plate(minute, zero, slope));
        return number;
    }

    public int join(int plate, int zero) throws IndexOutOfBoundsException, IllegalArgumentException {
        Plate told = plateAt(plate);
        needPlateZero(zero);
        int before = told.zero;
        told.zero = zero;
        return before;
    }

    public int step(int star, int watcher, int minute, int brighter, int ahead, int behind, int fainter)
            throws IndexOutOfBoundsException, IllegalArgumentException, IllegalStateException {
        Star seen = starAt(star);
        Watcher seer = watcherAt(watcher);
        Comparison first = comparisonAt(brighter);
        Comparison second = comparisonAt(fainter);
        needRange(minute, 0, LAST_MINUTE);
        needRange(ahead, 0, 9);
        needRange(behind, 0, 9);
        if (ahead + behind == 0 || brighter == fainter) {
            throw new IllegalArgumentException("a step needs two comparisons with a way between them");
        }
        int number = looks.size();
        needRoom(number, MOST_LOOKS);
        looks.add(new StepLook(seen, seer, minute, first, ahead, behind, second));
        return number;
    }

    public int density(int star, int plate, int density)
            throws IndexOutOfBoundsException, IllegalArgumentException, IllegalStateException {
        Star seen = starAt(star);
        Plate exposed = plateAt(plate);
        needRange(density, 0, 255);
        int number = looks.size();
        needRoom(number, MOST_LOOKS);
        looks.add(new DensityLook(seen, exposed, density));
        return number;
    }

    public boolean doubt(int look, boolean is) throws IndexOutOfBoundsException {
        Look told = lookAt(look);
        boolean before = told.isDoubted;
        told.isDoubted = is;
        return before;
    }

    public int minimum(int star, int minute)
            throws IndexOutOfBoundsException, IllegalArgumentException, IllegalStateException {
        Star seen = starAt(star);
        needRange(minute, 0, LAST_MINUTE);
        int ahead = minima.size();
        needRoom(ahead, MOST_MINIMA);
        minima.add(new Minimum(seen, minute));
        return ahead;
    }

    // ---- the catalogue

    public int merge(int star, int other) throws IndexOutOfBoundsException, IllegalStateException {
        int one = starAt(star).entry;
        int two = starAt(other).entry;
        if (one == two) {
            throw new IllegalStateException("the stars are of one entry");
        }
        int kept = Math.min(one, two);
        renumber(Math.max(one, two), kept);
        return kept;
    }

    public int split(int star) throws IndexOutOfBoundsException, IllegalStateException {
        Star leaving = starAt(star);
        int others = lowestOther(leaving);
        if (others == NONE) {
            throw new IllegalStateException("the star is an entry by itself");
        }
        renumber(leaving.entry, others);
        leaving.entry = leaving.number;
        return others;
    }

    public int entry(int star) throws IndexOutOfBoundsException {
        return starAt(star).entry;
    }

    public int entries(int place) throws IndexOutOfBoundsException {
        if (place < -1) {
            throw new IndexOutOfBoundsException("no such place");
        }
        int ahead = 0;
        for (int i = 0; i < stars.size(); i++) {
            if (stars.get(i).isEntry()) {
                if (ahead == place) {
                    return i;
                }
                ahead++;
            }
        }
        return place == -1 ? ahead : NONE;
    }

    // ---- looks, periods

    public int look(int look, int what) throws IndexOutOfBoundsException, IllegalArgumentException {
        Look told = lookAt(look);
        switch (what) {
            case OF_RAW:
                return told.rawLight();
            case OF_LIGHT:
                return told.trueLight();
            case OF_TIME:
                return told.trueTime();
            case OF_STAR:
                return told.seen.number;
            case OF_DOUBT:
                return told.isDoubted ? 1 : 0;
            case OF_SORT:
                return told.sort();
            default:
                throw new IllegalArgumentException("no such thing to tell of a look");
        }
    }

    public int string(int star, int period) throws IndexOutOfBoundsException, IllegalArgumentException {
        Star told = starAt(star);
        needPeriod(period);
        gatherCurve(told.entry, told.entry);
        return stringLength(period);
    }

    public int together(int star, int other, int period) throws IndexOutOfBoundsException, IllegalArgumentException {
        Star one = starAt(star);
        Star two = starAt(other);
        needPeriod(period);
        gatherCurve(one.entry, two.entry);
        return stringLength(period);
    }

    public int period(int star, int from, int to, int step)
            throws IndexOutOfBoundsException, IllegalArgumentException, IllegalStateException {
        Star told = starAt(star);
        int trials = countTrials(from, to, step);
        gatherCurveForTrials(told.entry);
        return from + bestTrial(from, step, trials) * step;
    }

    public int aliases(int star, int from, int to, int step, int percent)
            throws IndexOutOfBoundsException, IllegalArgumentException, IllegalStateException {
        Star told = starAt(star);
        int trials = countTrials(from, to, step);
        needRange(percent, 0, 50);
        gatherCurveForTrials(told.entry);
        return countAliases(bestTrial(from, step, trials), trials, percent);
    }

    // ---- classes

    public int claim(int star, int period) throws IndexOutOfBoundsException, IllegalArgumentException {
        Star told = starAt(star);
        if (period != 0) {
            needPeriod(period);
        }
        int before = told.claim;
        told.claim = period;
        return before;
    }

    public int feature(int star, int feature)
            throws IndexOutOfBoundsException, IllegalArgumentException, IllegalStateException {
        Star told = starAt(star);
        needRange(feature, AMPLITUDE, RISE);
        return featureOfCurve(feature, gatherClaimedCurve(told.entry));
    }

    public int rule(int kind, int feature, int from, int to, int votes)
            throws IllegalArgumentException, IllegalStateException {
        needRange(kind, 0, CLASSES - 1);
        needRange(feature, AMPLITUDE, RISE);
        needRange(from, 0, 1000000);
        needRange(to, from, 1000000);
        needRange(votes, -9, 9);
        if (votes == 0) {
            throw new IllegalArgumentException("a rule gives votes");
        }
        int number = rules.size();
        needRoom(number, MOST_RULES);
        rules.add(new Rule(kind, feature, from, to, votes));
        return number;
    }

    public boolean withdraw(int rule, boolean is) throws IndexOutOfBoundsException {
        Rule told = ruleAt(rule);
        boolean before = told.isWithdrawn;
        told.isWithdrawn = is;
        return before;
    }

    public int votes(int star, int kind)
            throws IndexOutOfBoundsException, IllegalArgumentException, IllegalStateException {
        Star told = starAt(star);
        needRange(kind, 0, CLASSES - 1);
        return votesForClass(kind, gatherClaimedCurve(told.entry));
    }

    public int kind(int star) throws IndexOutOfBoundsException, IllegalStateException {
        int claim = gatherClaimedCurve(starAt(star).entry);
        int best = NONE;
        int most = 0;
        for (int kind = 0; kind < CLASSES; kind++) {
            int votes = votesForClass(kind, claim);
            if (votes > most) {
                most = votes;
                best = kind;
            }
        }
        return best;
    }

    // ---- minima, the ladder

    public int cycle(int star, int period, int place, boolean isOffset)
            throws IndexOutOfBoundsException, IllegalArgumentException {
        gatherEclipses(starAt(star).entry);
        needPlace(place, eclipses.size());
        needPeriod(period);
        return isOffset ? offsetAt(place, period) : cycleAt(place, period);
    }

    public int lost(int star, int period) throws IndexOutOfBoundsException, IllegalArgumentException {
        Star told = starAt(star);
        needPeriod(period);
        gatherEclipses(told.entry);
        int count = 0;
        for (int i = 1; i < eclipses.size(); i++) {
            int jump = Math.abs(offsetAt(i, period) - offsetAt(i - 1, period));
            if (4 * jump > period) {
                count++;
            }
        }
        return count;
    }

    public int dust(int star, int dust) throws IndexOutOfBoundsException, IllegalArgumentException {
        Star told = starAt(star);
        needRange(dust, 0, 500);
        int before = told.dust;
        told.dust = dust;
        return before;
    }

    public int zero(int zero) throws IllegalArgumentException {
        needRange(zero, -1000, 1000);
        int before = ladderZero;
        ladderZero = zero;
        return before;
    }

    public int mean(int star) throws IndexOutOfBoundsException, IllegalStateException {
        Star told = starAt(star);
        gatherCurve(told.entry, told.entry);
        if (curve.size() == 0) {
            throw new IllegalStateException("the entry has no look");
        }
        return meanOfCurve();
    }

    public int modulus(int star) throws IndexOutOfBoundsException, IllegalStateException {
        Star lowest = starAt(starAt(star).entry);
        return modulusOfCurve(lowest, gatherClaimedCurve(lowest.entry));
    }

    public int nearest(int place) throws IndexOutOfBoundsException {
        if (place < 0) {
            throw new IndexOutOfBoundsException("no such place");
        }
        ladder.clear();
        for (int i = 0; i < stars.size(); i++) {
            Star lowest = stars.get(i);
            if (lowest.isEntry()) {
                gatherCurve(i, i);
                int claim = claimOf(i);
                if (hasFeatures(claim)) {
                    ladder.add(modulusOfCurve(lowest, claim), i);
                }
            }
        }
        return place < ladder.size() ? ladder.value(place) : NONE;
    }

    // ---- what the arguments name, and their ranges

    private Comparison comparisonAt(int number) {
        if (number < 0 || number >= comparisons.size()) {
            throw new IndexOutOfBoundsException("no such comparison");
        }
        return comparisons.get(number);
    }

    private Watcher watcherAt(int number) {
        if (number < 0 || number >= watchers.size()) {
            throw new IndexOutOfBoundsException("no such watcher");
        }
        return watchers.get(number);
    }

    private Star starAt(int number) {
        if (number < 0 || number >= stars.size()) {
            throw new IndexOutOfBoundsException("no such star");
        }
        return stars.get(number);
    }

    private Plate plateAt(int number) {
        if (number < 0 || number >= plates.size()) {
            throw new IndexOutOfBoundsException("no such plate");
        }
        return plates.get(number);
    }

    private Look lookAt(int number) {
        if (number < 0 || number >= looks.size()) {
            throw new IndexOutOfBoundsException("no such look");
        }
        return looks.get(number);
    }

    private Rule ruleAt(int number) {
        if (number < 0 || number >= rules.size()) {
            throw new IndexOutOfBoundsException("no such rule");
        }
        return rules.get(number);
    }

    private static void needPlace(int place, int count) {
        if (place < 0 || place >= count) {
            throw new IndexOutOfBoundsException("no such place");
        }
    }

    private static void needRange(int value, int least, int most) {
        if (value < least || value > most) {
            throw new IllegalArgumentException("an argument is out of its range");
        }
    }

    private static void needPeriod(int period) {
        needRange(period, SHORTEST_PERIOD, LONGEST_PERIOD);
    }

    private static void needPlateZero(int zero) {
        needRange(zero, -500, 3000);
    }

    private static void needRoom(int count, int most) {
        if (count >= most) {
            throw new IllegalStateException("no more of these are kept");
        }
    }

    /** The ranges are looked at first: only then can the difference and the division not go wrong. */
    private static int countTrials(int from, int to, int step) {
        needPeriod(from);
        needRange(to, from, LONGEST_PERIOD);
        needRange(step, 1, 1000000);
        int trials = quotient(to - from, step) + 1;
        needRange(trials, 1, MOST_TRIALS);
        return trials;
    }

    // ---- entries: each star bears the number of its entry, always that of the lowest star in it

    private void renumber(int from, int to) {
        for (int i = 0; i < stars.size(); i++) {
            Star star = stars.get(i);
            if (star.entry == from) {
                star.entry = to;
            }
        }
    }

    private int lowestOther(Star leaving) {
        for (int i = 0; i < stars.size(); i++) {
            if (i != leaving.number && stars.get(i).entry == leaving.entry) {
                return i;
            }
        }
        return NONE;
    }

    private int claimOf(int entry) {
        for (int i = 0; i < stars.size(); i++) {
            Star star = stars.get(i);
            if (star.entry == entry && star.claim != 0) {
                return star.claim;
            }
        }
        return 0;
    }

    // ---- the looks of an entry, in the row 'curve' by their times

    /** Both entries are gone through at once, so that looks of one time stay in the order of their numbers. */
    private void gatherCurve(int entry, int other) {
        curve.clear();
        for (int i = 0; i < looks.size(); i++) {
            Look look = looks.get(i);
            int of = look.seen.entry;
            if (!look.isDoubted && (of == entry || of == other)) {
                curve.add(look.trueTime(), look.trueLight());
            }
        }
    }

    private void gatherCurveForTrials(int entry) {
        gatherCurve(entry, entry);
        if (curve.size() < FEWEST_LOOKS_FOR_TRIALS) {
            throw new IllegalStateException("the entry has too few looks");
        }
    }

    private int gatherClaimedCurve(int entry) {
        gatherCurve(entry, entry);
        int claim = claimOf(entry);
        if (!hasFeatures(claim)) {
            throw new IllegalStateException("the entry has no claim, or no look");
        }
        return claim;
    }

    private boolean hasFeatures(int claim) {
        return claim != 0 && curve.size() > 0;
    }

    private int stringLength(int period) {
        folded.clear();
        for (int i = 0; i < curve.size(); i++) {
            folded.add(remainder(curve.key(i), period), curve.value(i));
        }
        int sum = 0;
        int before = folded.value(folded.size() - 1);
        for (int i = 0; i < folded.size(); i++) {
            int light = folded.value(i);
            sum += Math.abs(light - before);
            before = light;
        }
        return sum;
    }

    private int bestTrial(int from, int step, int trials) {
        int best = 0;
        for (int i = 0; i < trials && i < trialStrings.length; i++) {
            trialStrings[i] = stringLength(from + i * step);
            if (trialStrings[i] < trialStrings[best]) {
                best = i;
            }
        }
        return best;
    }

    private int countAliases(int best, int trials, int percent) {
        if (best < 0 || best >= trialStrings.length) {
            return 0;
        }
        int most = (100 + percent) * trialStrings[best];
        int count = 0;
        for (int i = 0; i < trials && i < trialStrings.length; i++) {
            if (i != best && 100 * trialStrings[i] <= most) {
                count++;
            }
        }
        return count;
    }

    private int featureOfCurve(int feature, int claim) {
        if (feature == PERIOD) {
            return claim;
        }
        int brightest = brightestOfCurve();
        int faintest = faintestOfCurve();
        if (feature == AMPLITUDE) {
            return curve.value(faintest) - curve.value(brightest);
        }
        int rise = remainder(curve.key(brightest) - curve.key(faintest), claim);
        return quotient(rise * 100, claim);
    }

    private int brightestOfCurve() {
        int best = 0;
        for (int i = 1; i < curve.size(); i++) {
            if (curve.value(i) < curve.value(best)) {
                best = i;
            }
        }
        return best;
    }

    private int faintestOfCurve() {
        int best = 0;
        for (int i = 1; i < curve.size(); i++) {
            if (curve.value(i) > curve.value(best)) {
                best = i;
            }
        }
        return best;
    }

    private int votesForClass(int kind, int claim) {
        int sum = 0;
        for (int i = 0; i < rules.size(); i++) {
            Rule rule = rules.get(i);
            if (rule.kind == kind && !rule.isWithdrawn && rule.holds(featureOfCurve(rule.feature, claim))) {
                sum += rule.votes;
            }
        }
        return sum;
    }

    private int meanOfCurve() {
        int sum = 0;
        for (int i = 0; i < curve.size(); i++) {
            sum += curve.value(i);
        }
        return quotient(sum, curve.size());
    }

    private int modulusOfCurve(Star lowest, int claim) {
        return meanOfCurve() - lowest.dust - ladderZero + MODULUS_OF_A_HALVING * halvings(claim);
    }

    private static int halvings(int claim) {
        int count = 0;
        for (int rest = claim; rest > 1; rest = rest / 2) {
            count++;
        }
        return count;
    }

    // ---- the minima of an entry, in the row 'eclipses' by their times

    private void gatherEclipses(int entry) {
        eclipses.clear();
        for (int i = 0; i < minima.size(); i++) {
            Minimum minimum = minima.get(i);
            if (minimum.seen.entry == entry) {
                eclipses.add(minimum.seen.arrival(minimum.minute), i);
            }
        }
    }

    private int sinceFirst(int place) {
        return eclipses.key(place) - eclipses.key(0);
    }

    private int cycleAt(int place, int period) {
        return quotient(2 * sinceFirst(place) + period, 2 * period);
    }

    private int offsetAt(int place, int period) {
        return sinceFirst(place) - cycleAt(place, period) * period;
    }

    // ---- divisions, rounded down: a divisor not above 0 never comes here, and would do no harm

    private static int quotient(int number, int divisor) {
        return divisor > 0 ? Math.floorDiv(number, divisor) : 0;
    }

    private static int remainder(int number, int divisor) {
        return divisor > 0 ? Math.floorMod(number, divisor) : 0;
    }

    private static final class Comparison {
        int light = FIRST_LIGHT;
    }

    private static final class Watcher {
        int bias = 0;
        int clock = 0;
    }

    private static final class Plate {
        final int minute;
        final int slope;
        int zero;

        Plate(int minute, int zero, int slope) {
            this.minute = minute;
            this.zero = zero;
            this.slope = slope;
        }
    }

    private static final class Star {
        final int number;
        final int place;
        int entry;
        int claim = 0;
        int dust = 0;

        Star(int number, int place) {
            this.number = number;
            this.place = place;
            this.entry = number;
        }

        boolean isEntry() {
            return entry == number;
        }

        /** The minute, and more by how late the light of this star is in it: below 0, it comes early. */
        int arrival(int minute) {
            int day = quotient(minute, MINUTES_OF_A_DAY);
            int along = remainder(day + place, DAYS_OF_A_ROUND);
            int away = Math.min(along, DAYS_OF_A_ROUND - along);
            return minute + MOST_LATE - quotient(2 * MOST_LATE * away, DAYS_OF_HALF_A_ROUND);
        }
    }

    /** Holds what was told, and the things it was told by: these may change, and with them its light and time. */
    private abstract static class Look {
        final Star seen;
        boolean isDoubted = false;

        Look(Star seen) {
            this.seen = seen;
        }

        abstract int rawLight();

        abstract int trueLight();

        abstract int trueTime();

        abstract int sort();
    }

    private static final class StepLook extends Look {
        private final Watcher seer;
        private final int minute;
        private final Comparison first;
        private final int ahead;
        private final int behind;
        private final Comparison second;

        StepLook(Star seen, Watcher seer, int minute, Comparison first, int ahead, int behind, Comparison second) {
            super(seen);
            this.seer = seer;
            this.minute = minute;
            this.first = first;
            this.ahead = ahead;
            this.behind = behind;
            this.second = second;
        }

        int rawLight() {
            return first.light + quotient((second.light - first.light) * ahead, ahead + behind);
        }

        int trueLight() {
            return rawLight() - seer.bias;
        }

        /** How late the light is goes by the minute as it was told, not by the clock set right. */
        int trueTime() {
            return seen.arrival(minute) - seer.clock;
        }

        int sort() {
            return SORT_STEP;
        }
    }

    private static final class DensityLook extends Look {
        private final Plate plate;
        private final int density;

        DensityLook(Star seen, Plate plate, int density) {
            super(seen);
            this.plate = plate;
            this.density = density;
        }

        int rawLight() {
            return plate.zero - quotient(density * plate.slope, 10);
        }

        int trueLight() {
            return rawLight();
        }

        int trueTime() {
            return seen.arrival(plate.minute);
        }

        int sort() {
            return SORT_DENSITY;
        }
    }

    private static final class Rule {
        final int kind;
        final int feature;
        final int votes;
        boolean isWithdrawn = false;
        private final int from;
        private final int to;

        Rule(int kind, int feature, int from, int to, int votes) {
            this.kind = kind;
            this.feature = feature;
            this.from = from;
            this.to = to;
            this.votes = votes;
        }

        boolean holds(int value) {
            return value >= from && value <= to;
        }
    }

    private static final class Minimum {
        final Star seen;
        final int minute;

        Minimum(Star seen, int minute) {
            this.seen = seen;
            this.minute = minute;
        }
    }

    /**
     * Pairs in the order of their keys, those of one key in the order in which they came: so what comes
     * by a lesser rank first needs no second key.
     */
    private static final class Row {
        private final int[] keys;
        private final int[] values;
        private int size = 0;

        Row(int most) {
            int length = Math.max(most, 0);
            keys = new int[length];
            values = new int[length];
        }

        void clear() {
            size = 0;
        }

        int size() {
            return size;
        }

        int key(int at) {
            return at >= 0 && at < size ? keys[at] : 0;
        }

        int value(int at) {
            return at >= 0 && at < size ? values[at] : 0;
        }

        /** The rows are as long as the limits on what is told, so a full one never comes here. */
        void add(int key, int value) {
            if (size >= keys.length) {
                return;
            }
            int at = placeBehind(key);
            System.arraycopy(keys, at, keys, at + 1, size - at);
            System.arraycopy(values, at, values, at + 1, size - at);
            keys[at] = key;
            values[at] = value;
            size++;
        }

        /** By halves, since rows are made anew for each of many trials; it never takes more turns than keys. */
        private int placeBehind(int key) {
            int low = 0;
            int high = size;
            for (int turn = 0; turn < size && low < high; turn++) {
                int middle = (low + high) / 2;
                if (keys[middle] <= key) {
                    low = middle + 1;
                } else {
                    high = middle;
                }
            }
            return low;
        }
    }
}
