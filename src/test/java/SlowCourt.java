import java.util.ArrayList;
import java.util.Collections;
import java.util.List;

/** A second court, written from the document alone, plain and slow: all ways to choose are tried out. */
final class SlowCourt {
    static final class Machine {
        int price;
        final List<Integer> measures = new ArrayList<>();

        boolean aside() {
            List<Integer> last = measures.subList(Math.max(0, measures.size() - 3), measures.size());
            return Collections.max(last) * 100 > Collections.min(last) * 110;
        }

        int scale() {
            return measures.get(measures.size() - 1);
        }
    }

    static final class Run {
        int change;
        int machine;
        int time;
        int worth;
        boolean struck;
    }

    final List<Machine> machines = new ArrayList<>();
    final List<Run> runs = new ArrayList<>();
    final boolean[] named = new boolean[40];
    final boolean[] excused = new boolean[40];
    int changes = 1;
    int enough = 3;
    int level = 50;
    int minutes = 1000;
    int credit = 100;
    int baseline = 0;
    int lastNamed = -1;
    boolean open = false;
    int good;
    int bad;
    int waits;

    private void index(boolean fine) {
        if (!fine) throw new IndexOutOfBoundsException();
    }

    private void argument(boolean fine) {
        if (!fine) throw new IllegalArgumentException();
    }

    private void state(boolean fine) {
        if (!fine) throw new IllegalStateException();
    }

    private boolean isChange(int c) {
        return c >= 0 && c < changes;
    }

    private boolean isMachine(int m) {
        return m >= 0 && m < machines.size();
    }

    private boolean isRun(int r) {
        return r >= 0 && r < runs.size();
    }

    int machine(int price, int measure) {
        argument(price >= 1 && price <= 60 && measure >= 50 && measure <= 200);
        state(machines.size() < 4);
        Machine m = new Machine();
        m.price = price;
        m.measures.add(measure);
        machines.add(m);
        return machines.size() - 1;
    }

    boolean measure(int machine, int measure) {
        index(isMachine(machine));
        argument(measure >= 50 && measure <= 200);
        machines.get(machine).measures.add(measure);
        goOn();
        return machines.get(machine).aside();
    }

    int ofMachine(int machine, int what) {
        index(isMachine(machine));
        argument(what >= 0 && what <= 4);
        Machine m = machines.get(machine);
        if (what == 0) return m.price;
        if (what == 1) return m.scale();
        if (what == 2) return m.aside() ? 1 : 0;
        if (what == 3) return (int) runs.stream().filter(r -> r.machine == machine).count();
        return m.measures.size();
    }

    int changes(int many) {
        argument(many >= 1 && many <= 39);
        state(changes + many <= 40);
        changes += many;
        return changes;
    }

    int run(int change, int machine, int time) {
        index(isChange(change) && isMachine(machine));
        argument(time >= 1 && time <= 9999);
        Machine m = machines.get(machine);
        state(!m.aside() && runs.size() < 80 && minutes >= m.price);
        Run r = new Run();
        r.change = change;
        r.machine = machine;
        r.time = time;
        r.worth = time * 100 / m.scale();
        runs.add(r);
        minutes -= m.price;
        goOn();
        return r.worth;
    }

    int strike(int run) {
        index(isRun(run));
        state(!runs.get(run).struck);
        runs.get(run).struck = true;
        goOn();
        return runs.get(run).worth;
    }

    private boolean counts(Run r) {
        return !r.struck && !machines.get(r.machine).aside();
    }

    private List<Run> sampleRuns(int change, int without) {
        List<Run> counting = new ArrayList<>();
        for (Run r : runs) {
            if (r.change == change && counts(r) && r.machine != without) counting.add(r);
        }
        return new ArrayList<>(counting.subList(Math.max(0, counting.size() - 6), counting.size()));
    }

    private List<Integer> sample(int change) {
        List<Integer> worths = new ArrayList<>();
        for (Run r : sampleRuns(change, -1)) worths.add(r.worth);
        return worths;
    }

    int ofRun(int run, int what) {
        index(isRun(run));
        argument(what >= 0 && what <= 5);
        Run r = runs.get(run);
        if (what == 0) return r.change;
        if (what == 1) return r.machine;
        if (what == 2) return r.time;
        if (what == 3) return r.worth;
        if (what == 4) return counts(r) ? 1 : 0;
        return sampleRuns(r.change, -1).contains(r) ? 1 : 0;
    }

    int ofChange(int change, int what) {
        index(isChange(change));
        argument(what >= 0 && what <= 5);
        List<Integer> s = sample(change);
        Collections.sort(s);
        if (what == 0) return (int) runs.stream().filter(r -> r.change == change).count();
        if (what == 1) return s.size();
        if (what == 5) return excused[change] ? 1 : named[change] ? 2 : 0;
        if (s.isEmpty()) return -1;
        if (what == 3) return s.get(0);
        if (what == 4) return s.get(s.size() - 1);
        for (int i = 0; ; i++) {
            int ahead = i;
            int behind = s.size() - 1 - i;
            if (ahead == behind || ahead == behind - 1) return s.get(i);
        }
    }

    private static int score(List<Integer> a, List<Integer> b) {
        int sum = 0;
        for (int x : a) {
            for (int y : b) {
                if (x < y) sum += 2;
                else if (x == y) sum += 1;
            }
        }
        return sum;
    }

    /** The verdict, the score, HIGH, LOW and ALL. */
    private int[] weigh(List<Integer> a, List<Integer> b) {
        List<Integer> together = new ArrayList<>(a);
        together.addAll(b);
        int score = score(a, b);
        int high = 0;
        int low = 0;
        int all = 0;
        for (int mask = 0; mask < 1 << together.size(); mask++) {
            if (Integer.bitCount(mask) != a.size()) continue;
            List<Integer> chosen = new ArrayList<>();
            List<Integer> left = new ArrayList<>();
            for (int i = 0; i < together.size(); i++) {
                ((mask >> i & 1) == 1 ? chosen : left).add(together.get(i));
            }
            int would = score(chosen, left);
            all++;
            if (would >= score) high++;
            if (would <= score) low++;
        }
        int verdict;
        if (a.size() < enough || b.size() < enough) verdict = 0;
        else if (high * 1000 <= level * all) verdict = 1;
        else if (low * 1000 <= level * all) verdict = 2;
        else if (a.size() == 6 && b.size() == 6) verdict = 3;
        else verdict = 4;
        return new int[] {verdict, score, high, low, all};
    }

    int verdict(int a, int b, int what) {
        index(isChange(a) && isChange(b));
        argument(what >= 0 && what <= 4);
        return weigh(sample(a), sample(b))[what];
    }

    double doubt(int a, int b) {
        index(isChange(a) && isChange(b));
        int[] w = weigh(sample(a), sample(b));
        return (double) w[2] / w[4];
    }

    int rule(int enough, int level) {
        argument(enough >= 2 && enough <= 6 && level >= 1 && level <= 200);
        int before = this.level;
        this.enough = enough;
        this.level = level;
        goOn();
        return before;
    }

    private void goOn() {
        while (open) {
            int x = bad == good + 1 ? bad : (good + bad) / 2;
            int v = weigh(sample(good), sample(x))[0];
            if (v == 0 || v == 4) {
                waits = sample(good).size() < sample(x).size() ? good : x;
                return;
            }
            if (v == 1 && x == bad) {
                named[x] = true;
                lastNamed = x;
                open = false;
            } else if (v == 1) {
                bad = x;
            } else if (x == bad) {
                open = false;
            } else {
                good = x;
            }
        }
    }

    int begin(int good, int bad) {
        index(isChange(good) && isChange(bad));
        argument(bad > good);
        state(!open);
        open = true;
        this.good = good;
        this.bad = bad;
        goOn();
        return open ? waits : -1;
    }

    int drop() {
        state(open);
        open = false;
        return bad - good - 1;
    }

    int ofCase(int what) {
        argument(what >= 0 && what <= 3);
        if (what == 3) return lastNamed;
        return !open ? -1 : what == 0 ? good : what == 1 ? bad : waits;
    }

    int move() {
        while (baseline + 1 < changes) {
            int next = baseline + 1;
            int v = verdict(baseline, next, 0);
            if (!excused[next] && v != 2 && v != 3) break;
            if (v == 2 && !excused[next]) credit += 10;
            baseline = next;
        }
        return baseline;
    }

    int wouldMove() {
        int baselineNow = baseline;
        int creditNow = credit;
        int would = move();
        baseline = baselineNow;
        credit = creditNow;
        return would;
    }

    int excuse(int change, int price) {
        index(isChange(change));
        argument(price >= 1 && price <= 100);
        state(named[change] && !excused[change] && price <= credit);
        excused[change] = true;
        credit -= price;
        return credit;
    }

    int budget(int more) {
        argument(more >= 1 && more <= 5000);
        minutes = Math.min(5000, minutes + more);
        return minutes;
    }

    int many(int what) {
        argument(what >= 0 && what <= 8);
        int count = 0;
        switch (what) {
            case 0: return machines.size();
            case 1: return changes;
            case 2: return runs.size();
            case 3: for (Run r : runs) if (counts(r)) count++; return count;
            case 4: return minutes;
            case 5: return credit;
            case 6: return baseline;
            case 7: for (boolean n : named) if (n) count++; return count;
            default: for (Machine m : machines) if (m.aside()) count++; return count;
        }
    }

    int minutesFor(int change) {
        index(isChange(change));
        int needed = 6 - sample(change).size();
        if (needed == 0) return 0;
        return machines.stream().filter(m -> !m.aside()).mapToInt(m -> m.price * needed).min().orElse(-1);
    }

    int verdictWith(int a, int b, int worth) {
        index(isChange(a) && isChange(b));
        argument(worth >= 1 && worth <= 20000);
        List<Integer> more = sample(b);
        more.add(worth);
        return weigh(sample(a), more.size() > 6 ? more.subList(1, 7) : more)[0];
    }

    int without(int machine) {
        index(isMachine(machine));
        int fewer = 0;
        for (int c = 0; c < changes; c++) {
            if (sampleRuns(c, machine).size() < sampleRuns(c, -1).size()) fewer++;
        }
        return fewer;
    }

    long digest() {
        List<Integer> v = new ArrayList<>();
        for (int w = 0; w <= 8; w++) v.add(many(w));
        for (int m = 0; m < machines.size(); m++) {
            for (int w = 0; w <= 4; w++) v.add(ofMachine(m, w));
            v.add(without(m));
        }
        for (int c = 0; c < changes; c++) {
            for (int w = 0; w <= 5; w++) v.add(ofChange(c, w));
            v.add(minutesFor(c));
        }
        for (int r = 0; r < runs.size(); r++) {
            for (int w = 0; w <= 5; w++) v.add(ofRun(r, w));
        }
        for (int c = 1; c < changes; c++) {
            int[] weighed = weigh(sample(c - 1), sample(c));
            for (int w = 0; w <= 4; w++) v.add(weighed[w]);
        }
        for (int w = 0; w <= 3; w++) v.add(ofCase(w));
        v.add(wouldMove());
        long d = 5750;
        for (int each : v) d = d * 31 + each;
        return d;
    }
}
