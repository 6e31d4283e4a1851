import java.util.ArrayList;

/** A court of performance: runs are told, verdicts come by ranks, and a case is bisected. */
public final class RegressionCourt {
    private static final int NONE = -1;

    private static final int MOST_MACHINES = 4;
    private static final int MOST_CHANGES = 40;
    private static final int MOST_RUNS = 80;
    private static final int MOST_MINUTES = 5000;
    private static final int SAMPLE_SIZE = 6;
    private static final int CREDIT_OF_FASTER = 10;

    private static final int OPEN = 0;
    private static final int SLOWER = 1;
    private static final int FASTER = 2;
    private static final int SAME = 3;
    private static final int UNSURE = 4;

    private final ArrayList<Machine> machines = new ArrayList<>();
    private final ArrayList<Change> changes = new ArrayList<>();
    private final ArrayList<Run> runs = new ArrayList<>();
    private final Change origin = new Change();
    private final Sample sample = new Sample();
    private final Duel duel = new Duel();
    private final Bisection bisection = new Bisection();
    private int enough = 3;
    private int level = 50;
    private int minutesLeft = 1000;
    private int credit = 100;
    private int baseline = 0;
    private int lastNamed = NONE;

    public RegressionCourt() {
        changes.add(origin);
    }

    // ---- machines

    public int machine(int price, int measure) throws IllegalArgumentException, IllegalStateException {
        if (isOutside(price, 1, 60) || isNoMeasure(measure)) {
            throw new IllegalArgumentException("price or measure");
        }
        if (machines.size() >= MOST_MACHINES) {
            throw new IllegalStateException("no more machines");
        }
        machines.add(new Machine(machines.size(), price, measure));
        return machines.size() - 1;
    }

    public boolean measure(int machine, int measure) throws IndexOutOfBoundsException, IllegalArgumentException {
        if (machine < 0 || machine >= machines.size()) {
            throw new IndexOutOfBoundsException("machine");
        }
        if (isNoMeasure(measure)) {
            throw new IllegalArgumentException("measure");
        }
        Machine measured = machines.get(machine);
        measured.take(measure);
        goOn();
        return measured.isAside;
    }

    public int ofMachine(int machine, int what) throws IndexOutOfBoundsException, IllegalArgumentException {
        if (machine < 0 || machine >= machines.size()) {
            throw new IndexOutOfBoundsException("machine");
        }
        if (isOutside(what, 0, 4)) {
            throw new IllegalArgumentException("what");
        }
        return machineFact(machines.get(machine), what);
    }

    // ---- changes and runs

    public int changes(int many) throws IllegalArgumentException, IllegalStateException {
        if (isOutside(many, 1, MOST_CHANGES - 1)) {
            throw new IllegalArgumentException("many");
        }
        if (changes.size() + many > MOST_CHANGES) {
            throw new IllegalStateException("no more changes");
        }
        for (int i = 0; i < many; i++) {
            changes.add(new Change());
        }
        return changes.size();
    }

    public int run(int change, int machine, int time)
            throws IndexOutOfBoundsException, IllegalArgumentException, IllegalStateException {
        if (isNoChange(change) || machine < 0 || machine >= machines.size()) {
            throw new IndexOutOfBoundsException("change or machine");
        }
        if (isOutside(time, 1, 9999)) {
            throw new IllegalArgumentException("time");
        }
        Machine used = machines.get(machine);
        if (used.isAside || runs.size() >= MOST_RUNS || minutesLeft < used.price) {
            throw new IllegalStateException("aside, no more runs, or no minutes");
        }
        Run told = new Run(change, used, time);
        runs.add(told);
        changeAt(change).runs.add(told);
        used.runs++;
        minutesLeft -= used.price;
        goOn();
        return told.worth;
    }

    public int strike(int run) throws IndexOutOfBoundsException, IllegalStateException {
        if (run < 0 || run >= runs.size()) {
            throw new IndexOutOfBoundsException("run");
        }
        Run struck = runs.get(run);
        if (struck.isStruck) {
            throw new IllegalStateException("struck already");
        }
        struck.isStruck = true;
        goOn();
        return struck.worth;
    }

    public int ofRun(int run, int what) throws IndexOutOfBoundsException, IllegalArgumentException {
        if (run < 0 || run >= runs.size()) {
            throw new IndexOutOfBoundsException("run");
        }
        if (isOutside(what, 0, 5)) {
            throw new IllegalArgumentException("what");
        }
        return runFact(runs.get(run), what);
    }

    public int ofChange(int change, int what) throws IndexOutOfBoundsException, IllegalArgumentException {
        if (isNoChange(change)) {
            throw new IndexOutOfBoundsException("change");
        }
        if (isOutside(what, 0, 5)) {
            throw new IllegalArgumentException("what");
        }
        return changeFact(changeAt(change), what);
    }

    // ---- verdicts

    public int verdict(int a, int b, int what) throws IndexOutOfBoundsException, IllegalArgumentException {
        if (isNoChange(a) || isNoChange(b)) {
            throw new IndexOutOfBoundsException("change");
        }
        if (isOutside(what, 0, 4)) {
            throw new IllegalArgumentException("what");
        }
        meet(a, b);
        return duelFact(what);
    }

    public double doubt(int a, int b) throws IndexOutOfBoundsException {
        if (isNoChange(a) || isNoChange(b)) {
            throw new IndexOutOfBoundsException("change");
        }
        meet(a, b);
        return duel.shareOfHigh();
    }

    public int rule(int enough, int level) throws IllegalArgumentException {
        if (isOutside(enough, 2, 6) || isOutside(level, 1, 200)) {
            throw new IllegalArgumentException("enough or level");
        }
        int levelBefore = this.level;
        this.enough = enough;
        this.level = level;
        goOn();
        return levelBefore;
    }

    // ---- cases

    public int begin(int good, int bad)
            throws IndexOutOfBoundsException, IllegalArgumentException, IllegalStateException {
        if (isNoChange(good) || isNoChange(bad)) {
            throw new IndexOutOfBoundsException("change");
        }
        if (bad <= good) {
            throw new IllegalArgumentException("bad is not above good");
        }
        if (bisection.isOn) {
            throw new IllegalStateException("there is a case");
        }
        bisection.open(good, bad);
        goOn();
        return bisection.waitsFor;
    }

    public int drop() throws IllegalStateException {
        if (!bisection.isOn) {
            throw new IllegalStateException("there is no case");
        }
        int between = bisection.bad - bisection.good - 1;
        bisection.close();
        return between;
    }

    public int ofCase(int what) throws IllegalArgumentException {
        if (isOutside(what, 0, 3)) {
            throw new IllegalArgumentException("what");
        }
        return caseFact(what);
    }

    // ---- baseline, excuses, minutes

    public int move() {
        for (int next = baseline + 1; next < changes.size(); next++) {
            int gained = creditOfStepTo(next);
            if (gained == NONE) {
                break;
            }
            baseline = next;
            credit += gained;
        }
        return baseline;
    }

    public int excuse(int change, int price)
            throws IndexOutOfBoundsException, IllegalArgumentException, IllegalStateException {
        if (isNoChange(change)) {
            throw new IndexOutOfBoundsException("change");
        }
        if (isOutside(price, 1, 100)) {
            throw new IllegalArgumentException("price");
        }
        Change excused = changeAt(change);
        if (!excused.isNamed || excused.isExcused || price > credit) {
            throw new IllegalStateException("not named, excused, or no credit");
        }
        excused.isExcused = true;
        credit -= price;
        return credit;
    }

    public int budget(int minutes) throws IllegalArgumentException {
        if (isOutside(minutes, 1, MOST_MINUTES)) {
            throw new IllegalArgumentException("minutes");
        }
        minutesLeft = Math.min(MOST_MINUTES, minutesLeft + minutes);
        return minutesLeft;
    }

    public int many(int what) throws IllegalArgumentException {
        if (isOutside(what, 0, 8)) {
            throw new IllegalArgumentException("what");
        }
        return courtFact(what);
    }

    // ---- what would be (nothing is changed)

    public int minutesFor(int change) throws IndexOutOfBoundsException {
        if (isNoChange(change)) {
            throw new IndexOutOfBoundsException("change");
        }
        return minutesToFill(changeAt(change));
    }

    public int verdictWith(int a, int b, int worth) throws IndexOutOfBoundsException, IllegalArgumentException {
        if (isNoChange(a) || isNoChange(b)) {
            throw new IndexOutOfBoundsException("change");
        }
        if (isOutside(worth, 1, 20000)) {
            throw new IllegalArgumentException("worth");
        }
        duel.first.clear();
        duel.first.addLastOf(changeAt(a));
        duel.second.clear();
        duel.second.add(worth);
        duel.second.addLastOf(changeAt(b));
        duel.weigh();
        return duel.outcome(enough, level);
    }

    public int without(int machine) throws IndexOutOfBoundsException {
        if (machine < 0 || machine >= machines.size()) {
            throw new IndexOutOfBoundsException("machine");
        }
        return changesHurtWithout(machines.get(machine));
    }

    public int wouldMove() {
        int ahead = baseline;
        for (int next = baseline + 1; next < changes.size() && creditOfStepTo(next) != NONE; next++) {
            ahead = next;
        }
        return ahead;
    }

    public long digest() {
        long d = 5750;
        for (int what = 0; what <= 8; what++) {
            d = d * 31 + courtFact(what);
        }
        d = digestOfMachines(d);
        d = digestOfChanges(d);
        d = digestOfRuns(d);
        d = digestOfVerdicts(d);
        for (int what = 0; what <= 3; what++) {
            d = d * 31 + caseFact(what);
        }
        return d * 31 + wouldMove();
    }

    // ---- looks at arguments

    private static boolean isOutside(int number, int least, int most) {
        return number < least || number > most;
    }

    private static boolean isNoMeasure(int measure) {
        return isOutside(measure, 50, 200);
    }

    private boolean isNoChange(int change) {
        return change < 0 || change >= changes.size();
    }

    // The number is looked at here once more, so that no index is used unseen.
    private Change changeAt(int number) {
        return number > 0 && number < changes.size() ? changes.get(number) : origin;
    }

    // ---- what is told of each thing

    private static int oneIf(boolean holds) {
        return holds ? 1 : 0;
    }

    private int machineFact(Machine machine, int what) {
        switch (what) {
            case 0: return machine.price;
            case 1: return machine.scale;
            case 2: return oneIf(machine.isAside);
            case 3: return machine.runs;
            default: return machine.measures;
        }
    }

    private int runFact(Run run, int what) {
        switch (what) {
            case 0: return run.change;
            case 1: return run.machine.number;
            case 2: return run.time;
            case 3: return run.worth;
            case 4: return oneIf(run.isCounting());
            default: return oneIf(changeAt(run.change).isInSample(run));
        }
    }

    private int changeFact(Change change, int what) {
        sample.clear();
        sample.addLastOf(change);
        switch (what) {
            case 0: return change.runs.size();
            case 1: return sample.size;
            case 2: return sample.worthAt((sample.size - 1) / 2);
            case 3: return sample.worthAt(0);
            case 4: return sample.worthAt(sample.size - 1);
            default: return change.isExcused ? 1 : change.isNamed ? 2 : 0;
        }
    }

    private int duelFact(int what) {
        switch (what) {
            case 0: return duel.outcome(enough, level);
            case 1: return duel.score;
            case 2: return duel.high;
            case 3: return duel.low;
            default: return duel.all;
        }
    }

    private int caseFact(int what) {
        switch (what) {
            case 0: return bisection.good;
            case 1: return bisection.bad;
            case 2: return bisection.waitsFor;
            default: return lastNamed;
        }
    }

    private int courtFact(int what) {
        switch (what) {
            case 0: return machines.size();
            case 1: return changes.size();
            case 2: return runs.size();
            case 3: return runsThatCount();
            case 4: return minutesLeft;
            case 5: return credit;
            case 6: return baseline;
            case 7: return changesNamed();
            default: return machinesAside();
        }
    }

    private int runsThatCount() {
        int counted = 0;
        for (int i = 0; i < runs.size(); i++) {
            counted += oneIf(runs.get(i).isCounting());
        }
        return counted;
    }

    private int changesNamed() {
        int named = 0;
        for (int i = 0; i < changes.size(); i++) {
            named += oneIf(changes.get(i).isNamed);
        }
        return named;
    }

    private int machinesAside() {
        int aside = 0;
        for (int i = 0; i < machines.size(); i++) {
            aside += oneIf(machines.get(i).isAside);
        }
        return aside;
    }

    // ---- verdicts, the case and the baseline

    private void meet(int a, int b) {
        duel.first.clear();
        duel.first.addLastOf(changeAt(a));
        duel.second.clear();
        duel.second.addLastOf(changeAt(b));
        duel.weigh();
    }

    private void goOn() {
        boolean goesOn = bisection.isOn;
        // Each step ends the case or brings good and bad closer, so the changes bound the steps.
        for (int step = 0; goesOn && step < MOST_CHANGES; step++) {
            goesOn = bisectOnce();
        }
    }

    private boolean bisectOnce() {
        int probe = bisection.probe();
        meet(bisection.good, probe);
        int outcome = duel.outcome(enough, level);
        if (outcome == OPEN || outcome == UNSURE) {
            bisection.waitsFor = duel.first.size < duel.second.size ? bisection.good : probe;
            return false;
        }
        if (probe == bisection.bad) {
            if (outcome == SLOWER) {
                changeAt(probe).isNamed = true;
                lastNamed = probe;
            }
            bisection.close();
            return false;
        }
        bisection.narrow(probe, outcome == SLOWER);
        return true;
    }

    /** The credit that the baseline's step to this change brings; NONE, if it stays ahead of it. */
    private int creditOfStepTo(int next) {
        if (changeAt(next).isExcused) {
            return 0;
        }
        meet(next - 1, next);
        switch (duel.outcome(enough, level)) {
            case FASTER: return CREDIT_OF_FASTER;
            case SAME: return 0;
            default: return NONE;
        }
    }

    // ---- minutes and machines

    private int minutesToFill(Change change) {
        int missing = SAMPLE_SIZE - change.sampleSize();
        if (missing == 0) {
            return 0;
        }
        int price = leastPrice();
        return price == NONE ? NONE : missing * price;
    }

    private int leastPrice() {
        int least = NONE;
        for (int i = 0; i < machines.size(); i++) {
            Machine machine = machines.get(i);
            if (!machine.isAside && (least == NONE || machine.price < least)) {
                least = machine.price;
            }
        }
        return least;
    }

    private int changesHurtWithout(Machine machine) {
        int hurt = 0;
        for (int i = 0; i < changes.size(); i++) {
            Change change = changes.get(i);
            hurt += oneIf(change.sampleSizeWithout(machine) < change.sampleSize());
        }
        return hurt;
    }

    // ---- digest

    private long digestOfMachines(long d) {
        for (int i = 0; i < machines.size(); i++) {
            Machine machine = machines.get(i);
            for (int what = 0; what <= 4; what++) {
                d = d * 31 + machineFact(machine, what);
            }
            d = d * 31 + changesHurtWithout(machine);
        }
        return d;
    }

    private long digestOfChanges(long d) {
        for (int i = 0; i < changes.size(); i++) {
            Change change = changes.get(i);
            for (int what = 0; what <= 5; what++) {
                d = d * 31 + changeFact(change, what);
            }
            d = d * 31 + minutesToFill(change);
        }
        return d;
    }

    private long digestOfRuns(long d) {
        for (int i = 0; i < runs.size(); i++) {
            Run run = runs.get(i);
            for (int what = 0; what <= 5; what++) {
                d = d * 31 + runFact(run, what);
            }
        }
        return d;
    }

    private long digestOfVerdicts(long d) {
        for (int child = 1; child < changes.size(); child++) {
            meet(child - 1, child);
            for (int what = 0; what <= 4; what++) {
                d = d * 31 + duelFact(what);
            }
        }
        return d;
    }

    private static final class Machine {
        private final int number;
        private final int price;
        private int scale;
        private int measureBefore;
        private int measureTwoBefore;
        private int measures = 1;
        private int runs = 0;
        private boolean isAside = false;

        // Measures that are not there yet stand as the first one: this changes neither least nor greatest.
        private Machine(int number, int price, int measure) {
            this.number = number;
            this.price = price;
            scale = measure;
            measureBefore = measure;
            measureTwoBefore = measure;
        }

        private void take(int measure) {
            measureTwoBefore = measureBefore;
            measureBefore = scale;
            scale = measure;
            measures++;
            isAside = drifts();
        }

        private boolean drifts() {
            int greatest = Math.max(scale, Math.max(measureBefore, measureTwoBefore));
            int smallest = Math.min(scale, Math.min(measureBefore, measureTwoBefore));
            return greatest * 100 > smallest * 110;
        }

        private int worthOf(int time) {
            return scale > 0 ? time * 100 / scale : 0;
        }
    }

    private static final class Run {
        private final int change;
        private final Machine machine;
        private final int time;
        private final int worth;
        private boolean isStruck = false;

        private Run(int change, Machine machine, int time) {
            this.change = change;
            this.machine = machine;
            this.time = time;
            // Kept, since the scale of the machine moves on with its measures.
            this.worth = machine.worthOf(time);
        }

        private boolean isCounting() {
            return !isStruck && !machine.isAside;
        }
    }

    private static final class Change {
        private final ArrayList<Run> runs = new ArrayList<>();
        private boolean isNamed = false;
        private boolean isExcused = false;

        private int sampleSize() {
            int counted = 0;
            for (int i = 0; i < runs.size(); i++) {
                counted += oneIf(runs.get(i).isCounting());
            }
            return Math.min(SAMPLE_SIZE, counted);
        }

        private int sampleSizeWithout(Machine machine) {
            int counted = 0;
            for (int i = 0; i < runs.size(); i++) {
                Run run = runs.get(i);
                counted += oneIf(run.isCounting() && run.machine != machine);
            }
            return Math.min(SAMPLE_SIZE, counted);
        }

        private boolean isInSample(Run wanted) {
            int counted = 0;
            for (int i = runs.size() - 1; i >= 0 && counted < SAMPLE_SIZE; i--) {
                Run run = runs.get(i);
                if (run == wanted) {
                    return run.isCounting();
                }
                counted += oneIf(run.isCounting());
            }
            return false;
        }
    }

    /** The worths of a sample, sorted. Who adds runs adds the last ones first: behind six, nothing gets in. */
    private static final class Sample {
        private final int[] worths = new int[SAMPLE_SIZE];
        private int size = 0;

        private void clear() {
            size = 0;
        }

        private void add(int worth) {
            if (size < 0 || size >= worths.length) {
                return;
            }
            int place = size;
            while (place > 0 && worths[place - 1] > worth) {
                worths[place] = worths[place - 1];
                place--;
            }
            worths[place] = worth;
            size++;
        }

        private void addLastOf(Change change) {
            for (int i = change.runs.size() - 1; i >= 0 && size < worths.length; i--) {
                Run run = change.runs.get(i);
                if (run.isCounting()) {
                    add(run.worth);
                }
            }
        }

        private int worthAt(int place) {
            return place >= 0 && place < size && place < worths.length ? worths[place] : NONE;
        }
    }

    /**
     * Two samples, weighed by ranks. The LEAD of a worth is what it scores against all others that are laid
     * together. The leads of chosen worths sum up to their score with what is left, and 2 for each pair among
     * the chosen: as many are chosen each time, so sums of leads compare as scores do.
     */
    private static final class Duel {
        private static final int MOST_LAID = 2 * SAMPLE_SIZE;
        private static final int MOST_LEADS = MOST_LAID * (MOST_LAID - 1);

        private final Sample first = new Sample();
        private final Sample second = new Sample();
        private final int[] laid = new int[MOST_LAID];
        private final int[][] ways = new int[SAMPLE_SIZE + 1][MOST_LEADS + 1];
        private int laidMany = 0;
        private int leadsUpTo = 0;
        private int score = 0;
        private int high = 1;
        private int low = 1;
        private int all = 1;

        private void weigh() {
            laidMany = 0;
            lay(first);
            lay(second);
            leadsUpTo = Math.min(MOST_LEADS, laidMany * (laidMany - 1));
            int leads = 0;
            for (int i = 0; i < first.size; i++) {
                leads += leadOf(i);
            }
            score = leads - first.size * (first.size - 1);
            countWays();
            tally(leads);
        }

        private void lay(Sample sample) {
            for (int i = 0; i < sample.size && laidMany < laid.length; i++) {
                laid[laidMany] = sample.worthAt(i);
                laidMany++;
            }
        }

        private int leadOf(int place) {
            int lead = 0;
            if (place < 0 || place >= laid.length) {
                return lead;
            }
            for (int other = 0; other < laidMany && other < laid.length; other++) {
                if (other != place && laid[place] <= laid[other]) {
                    lead += laid[place] < laid[other] ? 2 : 1;
                }
            }
            return lead;
        }

        /** Counts in ways[chosen][leads] how many ways there are to choose so many with such a sum of leads. */
        private void countWays() {
            for (int[] row : ways) {
                clearLeads(row);
            }
            ways[0][0] = 1;
            for (int i = 0; i < laidMany; i++) {
                int lead = leadOf(i);
                // From many chosen down to none, so that no worth is chosen twice.
                for (int chosen = Math.min(i, first.size - 1); chosen >= 0; chosen--) {
                    if (chosen + 1 < ways.length) {
                        addShifted(ways[chosen], ways[chosen + 1], lead);
                    }
                }
            }
        }

        private void clearLeads(int[] row) {
            for (int i = 0; i <= leadsUpTo && i < row.length; i++) {
                row[i] = 0;
            }
        }

        private void addShifted(int[] from, int[] to, int shift) {
            int end = Math.min(leadsUpTo + 1, to.length);
            for (int i = 0; i < from.length && shift >= 0 && i + shift < end; i++) {
                to[i + shift] += from[i];
            }
        }

        private void tally(int leads) {
            high = 0;
            low = 0;
            all = 0;
            if (first.size < 0 || first.size >= ways.length) {
                return;
            }
            int[] row = ways[first.size];
            for (int i = 0; i <= leadsUpTo && i < row.length; i++) {
                all += row[i];
                high += i >= leads ? row[i] : 0;
                low += i <= leads ? row[i] : 0;
            }
        }

        private int outcome(int enough, int level) {
            if (first.size < enough || second.size < enough) {
                return OPEN;
            }
            if (high * 1000 <= level * all) {
                return SLOWER;
            }
            if (low * 1000 <= level * all) {
                return FASTER;
            }
            return first.size == SAMPLE_SIZE && second.size == SAMPLE_SIZE ? SAME : UNSURE;
        }

        private double shareOfHigh() {
            return all > 0 ? (double) high / all : 1.0;
        }
    }

    private static final class Bisection {
        private boolean isOn = false;
        private int good = NONE;
        private int bad = NONE;
        private int waitsFor = NONE;

        private void open(int good, int bad) {
            isOn = true;
            this.good = good;
            this.bad = bad;
        }

        private void close() {
            isOn = false;
            good = NONE;
            bad = NONE;
            waitsFor = NONE;
        }

        private int probe() {
            return bad == good + 1 ? bad : (good + bad) / 2;
        }

        private void narrow(int probe, boolean isSlower) {
            if (isSlower) {
                bad = probe;
            } else {
                good = probe;
            }
        }
    }
}
