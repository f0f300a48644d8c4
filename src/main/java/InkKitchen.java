/**
 * A press room that mixes its own inks. The numbered promises that it keeps stand in the document
 * ../shared/DOC.md.
 */
public final class InkKitchen {
    private static final int BASES = 4;
    private static final int PARTS = 3;
    private static final int MOST_PART = 100;
    private static final int MOST_JOBS = 16;
    private static final int MOST_TINS = 30;
    private static final int MOST_MIXED = 8;
    private static final int MOST_TRIED_BY_ALL = 7;
    private static final int MOST_GRAMS_AT_ONCE = 5000;
    private static final int MOST_GRAMS_BOUGHT = 100000;
    private static final int LEAST_JOB_GRAMS = 10;
    private static final int MOST_JOB_GRAMS = 500;
    private static final int MOST_GAP = 300;
    private static final int MOST_DAYS_AT_ONCE = 100;
    private static final int LAST_DAY = 10000;
    private static final int MILLIGRAMS = 1000;
    private static final int TENTHS = 10;
    private static final int NONE = -1;

    private static final int OPEN = 0;
    private static final int MIXED = 1;
    private static final int PRINTED = 2;

    private static final int TELLS_TIN_TENTHS = 4;
    private static final int TELLS_TIN = 5;
    private static final int TELLS_GAP = 6;

    private static final int IN_STOCK = 0;
    private static final int IN_TINS = 1;
    private static final int IN_MIXED_JOBS = 2;
    private static final int ON_PAPER = 3;

    private final Shelf shelf = new Shelf();
    private final int[] gramsBought = new int[BASES];
    private final Ink paper = new Ink();
    private final Job[] jobs = new Job[MOST_JOBS];
    private final Press press = new Press();
    private final Ladle ladle = new Ladle();
    private final RecipeSearch search = new RecipeSearch();
    private final WashPlan plan = new WashPlan();
    private int jobCount;
    private boolean everMixed;
    private int day;

    public InkKitchen() {
        for (int i = 0; i < MOST_JOBS; i++) {
            jobs[i] = new Job();
        }
    }

    // ---- bases and jobs

    public void setBase(int base, int one, int two, int three)
            throws IllegalArgumentException, IllegalStateException {
        if (!isBase(base) || !isColour(one, two, three)) {
            throw new IllegalArgumentException();
        }
        if (everMixed) {
            throw new IllegalStateException();
        }
        setColour(shelf.baseColours[base], one, two, three);
    }

    public int buy(int base, int grams) throws IllegalArgumentException, IllegalStateException {
        if (!isBase(base) || !isWithin(grams, 1, MOST_GRAMS_AT_ONCE)) {
            throw new IllegalArgumentException();
        }
        if (gramsBought[base] + grams > MOST_GRAMS_BOUGHT) {
            throw new IllegalStateException();
        }
        gramsBought[base] += grams;
        shelf.stock.milligrams[base] += grams * MILLIGRAMS;
        return shelf.stock.milligrams[base];
    }

    public int job(int one, int two, int three, int grams, int gap)
            throws IllegalArgumentException, IllegalStateException {
        if (!isColour(one, two, three) || !isJobGrams(grams) || !isWithin(gap, 0, MOST_GAP)) {
            throw new IllegalArgumentException();
        }
        if (jobCount >= MOST_JOBS) {
            throw new IllegalStateException();
        }
        Job taken = jobs[jobCount];
        setColour(taken.wanted, one, two, three);
        taken.grams = grams;
        taken.gap = gap;
        jobCount++;
        return jobCount - 1;
    }

    public int recipe(int job, int what)
            throws IndexOutOfBoundsException, IllegalArgumentException, IllegalStateException {
        Job asked = jobNumbered(job);
        if (!isWithin(what, 0, TELLS_GAP)) {
            throw new IllegalArgumentException();
        }
        if (asked.state != OPEN || !search.find(asked, shelf)) {
            throw new IllegalStateException();
        }
        return search.best.tell(what);
    }

    public int mix(int job) throws IndexOutOfBoundsException, IllegalStateException {
        Job mixed = jobNumbered(job);
        if (mixed.state != OPEN || countMixed() >= MOST_MIXED || !search.find(mixed, shelf)) {
            throw new IllegalStateException();
        }
        fillInk(mixed, search.best);
        for (int part = 0; part < PARTS; part++) {
            mixed.colour[part] = shelf.partOf(mixed.ink, part);
        }
        mixed.state = MIXED;
        everMixed = true;
        return search.best.gap;
    }

    public int print(int job, int used, boolean chip)
            throws IndexOutOfBoundsException, IllegalArgumentException, IllegalStateException {
        Job printed = jobNumbered(job);
        if (!isWithin(used, 1, printed.grams)) {
            throw new IllegalArgumentException();
        }
        boolean leavesTin = used < printed.grams;
        if (printed.state != MIXED || (leavesTin && shelf.tinCount >= MOST_TINS)) {
            throw new IllegalStateException();
        }
        ladle.move(printed.ink, used, paper);
        press.run(printed.colour, used);
        printed.state = PRINTED;
        printed.hasChip = chip;
        printed.printDay = day;
        return leavesTin ? shelf.keep(printed.ink) : NONE;
    }

    public int pass(int days) throws IllegalArgumentException, IllegalStateException {
        if (!isWithin(days, 1, MOST_DAYS_AT_ONCE)) {
            throw new IllegalArgumentException();
        }
        if (day + days > LAST_DAY) {
            throw new IllegalStateException();
        }
        day += days;
        return day;
    }

    // ---- what is where

    public int state(int job) throws IndexOutOfBoundsException {
        return jobNumbered(job).state;
    }

    public int tins() {
        return shelf.tinCount;
    }

    public int inTin(int tin, int base) throws IndexOutOfBoundsException, IllegalArgumentException {
        Ink asked = tinNumbered(tin);
        if (!isBase(base)) {
            throw new IllegalArgumentException();
        }
        return asked.milligrams[base];
    }

    public int shade(int tin, int part)
            throws IndexOutOfBoundsException, IllegalArgumentException, IllegalStateException {
        Ink asked = tinNumbered(tin);
        if (!isWithin(part, 0, PARTS - 1)) {
            throw new IllegalArgumentException();
        }
        if (asked.weight() == 0) {
            throw new IllegalStateException();
        }
        return shelf.partOf(asked, part);
    }

    public int where(int base, int place) throws IllegalArgumentException {
        if (!isBase(base) || !isWithin(place, IN_STOCK, ON_PAPER)) {
            throw new IllegalArgumentException();
        }
        switch (place) {
            case IN_STOCK:
                return shelf.stock.milligrams[base];
            case IN_TINS:
                return shelf.inAllTins(base);
            case IN_MIXED_JOBS:
                return inMixedJobs(base);
            default:
                return paper.milligrams[base];
        }
    }

    // ---- washes, plate, chips

    public int washes() {
        planWashes();
        return plan.leastBySets();
    }

    public int washesByAll() throws IllegalStateException {
        if (countMixed() > MOST_TRIED_BY_ALL) {
            throw new IllegalStateException();
        }
        planWashes();
        return plan.leastByAllOrders();
    }

    public int firstRun() {
        planWashes();
        return plan.firstOfBest();
    }

    public int wear() {
        return press.plateWear;
    }

    public int chipGap(int job, int other) throws IndexOutOfBoundsException, IllegalStateException {
        Job printed = jobNumbered(job);
        Job compared = jobNumbered(other);
        if (!printed.hasChip || compared.state == OPEN) {
            throw new IllegalStateException();
        }
        int gap = 0;
        for (int part = 0; part < PARTS; part++) {
            gap += Math.abs(printed.chipPart(part, day) - compared.colour[part]);
        }
        return gap;
    }

    private Job jobNumbered(int number) {
        if (number < 0 || number >= jobCount) {
            throw new IndexOutOfBoundsException();
        }
        return jobs[number];
    }

    private Ink tinNumbered(int number) {
        if (number < 0 || number >= shelf.tinCount) {
            throw new IndexOutOfBoundsException();
        }
        return shelf.tins[number];
    }

    private void fillInk(Job job, Recipe recipe) {
        for (int base = 0; base < BASES; base++) {
            int milligrams = recipe.tenths[base] * job.milligramsOfTenth();
            shelf.stock.milligrams[base] -= milligrams;
            job.ink.milligrams[base] += milligrams;
        }
        if (recipe.tin >= 0 && recipe.tin < shelf.tinCount) {
            ladle.move(shelf.tins[recipe.tin], job.gramsOfTenths(recipe.tinTenths), job.ink);
        }
    }

    private int countMixed() {
        int count = 0;
        for (int i = 0; i < jobCount; i++) {
            if (jobs[i].state == MIXED) {
                count++;
            }
        }
        return count;
    }

    private int inMixedJobs(int base) {
        int milligrams = 0;
        for (int i = 0; i < jobCount; i++) {
            if (jobs[i].state == MIXED) {
                milligrams += jobs[i].ink.milligrams[base];
            }
        }
        return milligrams;
    }

    private void planWashes() {
        plan.clear();
        for (int i = 0; i < jobCount; i++) {
            if (jobs[i].state == MIXED) {
                plan.add(i, jobs[i].colour, press);
            }
        }
    }

    private static boolean isWithin(int value, int least, int most) {
        return value >= least && value <= most;
    }

    private static boolean isBase(int base) {
        return isWithin(base, 0, BASES - 1);
    }

    private static boolean isColour(int one, int two, int three) {
        return isWithin(one, 0, MOST_PART) && isWithin(two, 0, MOST_PART)
                && isWithin(three, 0, MOST_PART);
    }

    private static boolean isJobGrams(int grams) {
        return isWithin(grams, LEAST_JOB_GRAMS, MOST_JOB_GRAMS) && grams % TENTHS == 0;
    }

    private static void setColour(int[] colour, int one, int two, int three) {
        colour[0] = one;
        colour[1] = two;
        colour[2] = three;
    }

    /** Milligrams of each base: a stock, a tin, the ink of a job, or what is on paper. */
    static final class Ink {
        final int[] milligrams = new int[BASES];

        int weight() {
            int weight = 0;
            for (int base = 0; base < BASES; base++) {
                weight += milligrams[base];
            }
            return weight;
        }
    }

    /** What inks are mixed from: the bases with their colours, and the tins. */
    static final class Shelf {
        final int[][] baseColours = {{0, 0, 0}, {100, 10, 20}, {20, 100, 10}, {90, 90, 90}};
        final Ink stock = new Ink();
        final Ink[] tins = new Ink[MOST_TINS];
        int tinCount;

        Shelf() {
            for (int i = 0; i < MOST_TINS; i++) {
                tins[i] = new Ink();
            }
        }

        int partOf(Ink ink, int part) {
            int weight = ink.weight();
            if (weight <= 0) {
                return 0;
            }
            return weighedPart(ink.milligrams, part) / weight;
        }

        /** Holds for up to 21 kilograms without overflow; the ink of a job is 500 grams at most. */
        int weighedPart(int[] weights, int part) {
            int sum = 0;
            for (int base = 0; base < BASES; base++) {
                sum += weights[base] * baseColours[base][part];
            }
            return sum;
        }

        /** Moves a whole ink into a new tin and tells its number. */
        int keep(Ink ink) {
            if (tinCount >= MOST_TINS) {
                return NONE;
            }
            Ink tin = tins[tinCount];
            for (int base = 0; base < BASES; base++) {
                tin.milligrams[base] = ink.milligrams[base];
                ink.milligrams[base] = 0;
            }
            tinCount++;
            return tinCount - 1;
        }

        int inAllTins(int base) {
            int milligrams = 0;
            for (int i = 0; i < tinCount; i++) {
                milligrams += tins[i].milligrams[base];
            }
            return milligrams;
        }
    }

    /** Measures what a number of grams out of an ink is of each base. */
    static final class Ladle {
        final int[] measured = new int[BASES];
        private final int[] rests = new int[BASES];

        void measure(Ink ink, int grams) {
            int weight = ink.weight();
            int wanted = grams * MILLIGRAMS;
            int missing = wanted;
            for (int base = 0; base < BASES; base++) {
                // A long, for 500000 mg times 500000 mg is beyond an int.
                long product = (long) ink.milligrams[base] * wanted;
                measured[base] = weight > 0 ? (int) (product / weight) : 0;
                rests[base] = weight > 0 ? (int) (product % weight) : 0;
                missing -= measured[base];
            }
            // The rests sum up to missing times the weight and each is below the weight: so more
            // bases have a rest than milligrams are missing, and no base gives a second one.
            for (int i = 0; i < BASES && i < missing; i++) {
                addToGreatestRest();
            }
        }

        void move(Ink from, int grams, Ink into) {
            measure(from, grams);
            for (int base = 0; base < BASES; base++) {
                from.milligrams[base] -= measured[base];
                into.milligrams[base] += measured[base];
            }
        }

        private void addToGreatestRest() {
            int greatest = 0;
            for (int base = 1; base < BASES; base++) {
                if (rests[base] > rests[greatest]) {
                    greatest = base;
                }
            }
            measured[greatest]++;
            rests[greatest] = NONE;
        }
    }

    /** A job, with its ink from when it is mixed until it is printed. */
    static final class Job {
        final int[] wanted = new int[PARTS];
        /** The colour of the ink as it was mixed: it stays when the ink is gone. */
        final int[] colour = new int[PARTS];
        final Ink ink = new Ink();
        int grams;
        int gap;
        int state = OPEN;
        boolean hasChip;
        int printDay;

        int gramsOfTenths(int tenths) {
            return grams / TENTHS * tenths;
        }

        int milligramsOfTenth() {
            return gramsOfTenths(1) * MILLIGRAMS;
        }

        int chipPart(int part, int today) {
            return Math.min(MOST_PART, colour[part] + (today - printDay) / 10);
        }
    }

    /** What a recipe tells. */
    static final class Recipe {
        final int[] tenths = new int[BASES];
        int tinTenths;
        int tin;
        int gap;

        int tell(int what) {
            switch (what) {
                case TELLS_TIN_TENTHS:
                    return tinTenths;
                case TELLS_TIN:
                    return tin;
                case TELLS_GAP:
                    return gap;
                default:
                    return what >= 0 && what < BASES ? tenths[what] : 0;
            }
        }
    }

    /**
     * Tries recipes in the order in which the document prefers them among those of the same tenths
     * of a tin and the same gap; so only a lesser gap replaces the best one.
     */
    static final class RecipeSearch {
        final Recipe best = new Recipe();
        private final Ladle ladle = new Ladle();
        private final int[] nothing = new int[BASES];
        private final int[] mostTenths = new int[BASES];
        private final int[] trial = new int[BASES];
        private final int[] tinParts = new int[PARTS];
        private boolean found;
        /** The greatest gap that a recipe tried from now on may have. */
        private int allowedGap;

        /** Tells whether there is a recipe; it stands in best then. */
        boolean find(Job job, Shelf shelf) {
            found = false;
            allowedGap = job.gap;
            countTenths(job, shelf.stock);
            for (int tenths = TENTHS; tenths > 0 && !found; tenths--) {
                for (int tin = 0; tin < shelf.tinCount; tin++) {
                    tryTin(job, shelf, tin, tenths);
                }
            }
            if (!found) {
                weighTin(shelf, nothing);
                tryBases(job, shelf, NONE, 0);
            }
            return found;
        }

        private void countTenths(Job job, Ink stock) {
            int tenth = job.milligramsOfTenth();
            for (int base = 0; base < BASES; base++) {
                mostTenths[base] = tenth > 0 ? stock.milligrams[base] / tenth : 0;
            }
        }

        private void tryTin(Job job, Shelf shelf, int tin, int tinTenths) {
            Ink ink = shelf.tins[tin];
            int grams = job.gramsOfTenths(tinTenths);
            if (ink.weight() < grams * MILLIGRAMS) {
                return;
            }
            ladle.measure(ink, grams);
            weighTin(shelf, ladle.measured);
            tryBases(job, shelf, tin, tinTenths);
        }

        private void weighTin(Shelf shelf, int[] milligrams) {
            for (int part = 0; part < PARTS; part++) {
                tinParts[part] = shelf.weighedPart(milligrams, part);
            }
        }

        private void tryBases(Job job, Shelf shelf, int tin, int tinTenths) {
            int left = TENTHS - tinTenths;
            for (int zero = 0; zero <= left && zero <= mostTenths[0]; zero++) {
                for (int one = 0; one <= left - zero && one <= mostTenths[1]; one++) {
                    for (int two = 0; two <= left - zero - one && two <= mostTenths[2]; two++) {
                        trial[0] = zero;
                        trial[1] = one;
                        trial[2] = two;
                        trial[3] = left - zero - one - two;
                        if (trial[3] <= mostTenths[3]) {
                            tryTrial(job, shelf, tin, tinTenths);
                        }
                    }
                }
            }
        }

        private void tryTrial(Job job, Shelf shelf, int tin, int tinTenths) {
            int gap = gapOfTrial(job, shelf);
            if (gap > allowedGap) {
                return;
            }
            found = true;
            allowedGap = gap - 1;
            best.gap = gap;
            best.tin = tin;
            best.tinTenths = tinTenths;
            for (int base = 0; base < BASES; base++) {
                best.tenths[base] = trial[base];
            }
        }

        /** Looks at no further part once the gap is too great already. */
        private int gapOfTrial(Job job, Shelf shelf) {
            int tenth = job.milligramsOfTenth();
            int gap = 0;
            for (int part = 0; part < PARTS && gap <= allowedGap && tenth > 0; part++) {
                int sum = tinParts[part] + tenth * shelf.weighedPart(trial, part);
                gap += Math.abs(sum / (tenth * TENTHS) - job.wanted[part]);
            }
            return gap;
        }
    }

    /** The colour that was printed last, if one was, and the plate. */
    static final class Press {
        private final int[] lastColour = new int[PARTS];
        private boolean isClean = true;
        int plateWear;

        void run(int[] colour, int grams) {
            for (int part = 0; part < PARTS; part++) {
                lastColour[part] = colour[part];
            }
            isClean = false;
            plateWear += 1 + grams / 100;
            if (plateWear >= 10) {
                plateWear = 0;
            }
        }

        int washTo(int[] colour) {
            return isClean ? 0 : washBetween(lastColour, colour);
        }

        static int washBetween(int[] from, int[] to) {
            int gap = 0;
            int brighter = 0;
            for (int part = 0; part < PARTS; part++) {
                gap += Math.abs(to[part] - from[part]);
                brighter += to[part] - from[part];
            }
            return brighter > 0 ? 2 * gap : gap;
        }
    }

    /** Finds the best order of some runs; a set of runs is a number with a bit for each of them. */
    static final class WashPlan {
        /** The row of the costs from the press as it stands. */
        private static final int PRESS = MOST_MIXED;
        private static final int ALL_SETS = 1 << MOST_MIXED;
        /** Eight washes of twice a gap of 300 cost 4800. */
        private static final int ABOVE_ANY_COST = 1000000;

        private final int[] runs = new int[MOST_MIXED];
        private final int[][] colours = new int[MOST_MIXED][PARTS];
        private final int[][] costs = new int[MOST_MIXED + 1][MOST_MIXED];
        /** The least cost of the runs of a set behind a run or behind the press. */
        private final int[][] least = new int[ALL_SETS][MOST_MIXED + 1];
        private int count;

        void clear() {
            count = 0;
        }

        /** Runs are added from the lower job to the higher one: firstOfBest rests upon that. */
        void add(int job, int[] colour, Press press) {
            if (count >= MOST_MIXED) {
                return;
            }
            runs[count] = job;
            for (int part = 0; part < PARTS; part++) {
                colours[count][part] = colour[part];
            }
            for (int other = 0; other < count; other++) {
                costs[count][other] = Press.washBetween(colour, colours[other]);
                costs[other][count] = Press.washBetween(colours[other], colour);
            }
            costs[PRESS][count] = press.washTo(colour);
            count++;
        }

        int leastBySets() {
            int sets = 1 << count;
            for (int set = 0; set < sets && set < ALL_SETS; set++) {
                // The answers for runs that stand in the set themselves are never read.
                for (int from = 0; from <= MOST_MIXED; from++) {
                    least[set][from] = leastBehind(set, from);
                }
            }
            return least[(sets - 1) & (ALL_SETS - 1)][PRESS];
        }

        /** Smaller sets must have been told before. */
        private int leastBehind(int set, int from) {
            if (set == 0) {
                return 0;
            }
            int cost = ABOVE_ANY_COST;
            for (int next = 0; next < count; next++) {
                if ((set & (1 << next)) != 0) {
                    int rest = set & ~(1 << next) & (ALL_SETS - 1);
                    cost = Math.min(cost, costs[from][next] + least[rest][next]);
                }
            }
            return cost;
        }

        int firstOfBest() {
            int cost = leastBySets();
            int all = (1 << count) - 1;
            for (int first = 0; first < count; first++) {
                int rest = all & ~(1 << first) & (ALL_SETS - 1);
                if (costs[PRESS][first] + least[rest][first] == cost) {
                    return runs[first];
                }
            }
            return NONE;
        }

        int leastByAllOrders() {
            return tryOrders(costs, (1 << count) - 1, PRESS, 0);
        }

        private static int tryOrders(int[][] costs, int set, int from, int depth) {
            if (set == 0 || depth >= MOST_MIXED) {
                return 0;
            }
            int cost = ABOVE_ANY_COST;
            for (int next = 0; next < MOST_MIXED; next++) {
                if ((set & (1 << next)) != 0) {
                    int behind = tryOrders(costs, set & ~(1 << next), next, depth + 1);
                    cost = Math.min(cost, costs[from][next] + behind);
                }
            }
            return cost;
        }
    }
}
