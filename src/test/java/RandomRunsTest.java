import java.util.Random;
import java.util.concurrent.Callable;

/** Runs of calls with chosen-by-seed arguments, right and wrong ones: RegressionCourt and SlowCourt must agree. */
public final class RandomRunsTest {
    private static final int RUNS = 600;
    // With an asking call behind every second one, and the digests, an object gets less than 512 calls.
    private static final int CALLS = 330;

    private final Random random;
    private final RegressionCourt court = new RegressionCourt();
    private final SlowCourt slow = new SlowCourt();
    private final int changesWanted;
    private final int spread;
    private String call = "";

    private RandomRunsTest(int seed) {
        random = new Random(seed);
        changesWanted = seed % 5 == 0 ? 39 : 2 + random.nextInt(7);
        spread = new int[] {3, 12, 60, 400}[random.nextInt(4)];
    }

    private boolean agree(String name, Callable<Object> fast, Callable<Object> plain) {
        call = name;
        String got = Answers.of(fast);
        String due = Answers.of(plain);
        if (got.equals(due)) return true;
        System.out.println(name + " answered " + got + ", due is " + due);
        return false;
    }

    private int any(int least, int most) {
        int kind = random.nextInt(60);
        if (kind == 0) return least - 1;
        if (kind == 1) return most + 1;
        if (kind == 2) return random.nextBoolean() ? Integer.MIN_VALUE : Integer.MAX_VALUE;
        if (kind == 3) return least;
        if (kind == 4) return most;
        return least + random.nextInt(Math.max(1, most - least + 1));
    }

    private int change() {
        return any(0, slow.many(1) - 1);
    }

    private int machine() {
        return any(0, slow.many(0) - 1);
    }

    private int measured() {
        return random.nextInt(6) == 0 ? any(50, 200) : 96 + random.nextInt(10);
    }

    private int time(int change) {
        if (random.nextInt(50) == 0) return any(1, 9999);
        int slope = change < 0 || change > 40 ? 0 : change / 2 * (random.nextInt(8) == 0 ? -20 : 8);
        return Math.max(1, 200 + slope + random.nextInt(spread));
    }

    private boolean tellRun() {
        int waits = slow.ofCase(2);
        int c = waits >= 0 && random.nextInt(3) > 0 ? waits : random.nextInt(3) == 0 ? change() : any(0, Math.min(3, slow.many(1) - 1));
        int m = machine();
        int t = time(c);
        return agree("run(" + c + ", " + m + ", " + t + ")", () -> court.run(c, m, t), () -> slow.run(c, m, t));
    }

    private boolean tell() {
        int kind = random.nextInt(22);
        if (kind <= 8) return tellRun();
        int c = change();
        int d = change();
        int m = machine();
        int n = measured();
        switch (kind) {
            case 9: {
                int p = any(1, random.nextInt(4) == 0 ? 60 : 5);
                return agree("machine(" + p + ", " + n + ")", () -> court.machine(p, n), () -> slow.machine(p, n));
            }
            case 10: case 11: case 12:
                return agree("measure(" + m + ", " + n + ")", () -> court.measure(m, n), () -> slow.measure(m, n));
            case 13: {
                int many = random.nextInt(6) == 0 ? any(1, 39) : Math.max(1, changesWanted - slow.many(1));
                if (slow.many(1) >= changesWanted && random.nextInt(20) > 0) return true;
                return agree("changes(" + many + ")", () -> court.changes(many), () -> slow.changes(many));
            }
            case 14: {
                int r = any(0, slow.many(2) - 1);
                if (random.nextInt(3) > 0) return true;
                return agree("strike(" + r + ")", () -> court.strike(r), () -> slow.strike(r));
            }
            case 15: {
                int e = random.nextInt(3) == 0 ? any(2, 6) : 2 + random.nextInt(2);
                int l = any(1, 200);
                return agree("rule(" + e + ", " + l + ")", () -> court.rule(e, l), () -> slow.rule(e, l));
            }
            case 16: case 17:
                return agree("begin(" + c + ", " + d + ")", () -> court.begin(c, d), () -> slow.begin(c, d));
            case 18:
                if (random.nextInt(5) > 0) return true;
                return agree("drop()", () -> court.drop(), () -> slow.drop());
            case 19:
                return agree("move()", () -> court.move(), () -> slow.move());
            case 20: {
                int x = random.nextBoolean() ? c : slow.ofCase(3);
                int p = random.nextInt(3) == 0 ? any(1, 100) : any(1, 30);
                return agree("excuse(" + x + ", " + p + ")", () -> court.excuse(x, p), () -> slow.excuse(x, p));
            }
            default: {
                int b = any(1, random.nextInt(4) == 0 ? 5000 : 60);
                return agree("budget(" + b + ")", () -> court.budget(b), () -> slow.budget(b));
            }
        }
    }

    private boolean ask() {
        int c = change();
        int d = change();
        int m = machine();
        int r = any(0, slow.many(2) - 1);
        int w = any(0, 5);
        switch (random.nextInt(11)) {
            case 0: return agree("ofMachine(" + m + ", " + w + ")", () -> court.ofMachine(m, w), () -> slow.ofMachine(m, w));
            case 1: return agree("ofRun(" + r + ", " + w + ")", () -> court.ofRun(r, w), () -> slow.ofRun(r, w));
            case 2: return agree("ofChange(" + c + ", " + w + ")", () -> court.ofChange(c, w), () -> slow.ofChange(c, w));
            case 3: return agree("verdict(" + c + ", " + d + ", " + w + ")", () -> court.verdict(c, d, w), () -> slow.verdict(c, d, w));
            case 4: return agree("doubt(" + c + ", " + d + ")", () -> court.doubt(c, d), () -> slow.doubt(c, d));
            case 5: return agree("ofCase(" + w + ")", () -> court.ofCase(w), () -> slow.ofCase(w));
            case 6: {
                int k = any(0, 8);
                return agree("many(" + k + ")", () -> court.many(k), () -> slow.many(k));
            }
            case 7: return agree("minutesFor(" + c + ")", () -> court.minutesFor(c), () -> slow.minutesFor(c));
            case 8: {
                int worth = random.nextInt(4) == 0 ? any(1, 20000) : 190 + random.nextInt(60);
                return agree("verdictWith(" + c + ", " + d + ", " + worth + ")", () -> court.verdictWith(c, d, worth), () -> slow.verdictWith(c, d, worth));
            }
            case 9: return agree("without(" + m + ")", () -> court.without(m), () -> slow.without(m));
            default: return agree("wouldMove()", () -> court.wouldMove(), () -> slow.wouldMove());
        }
    }

    private boolean isRight() {
        for (int i = 0; i < CALLS; i++) {
            if (!tell() || i % 2 == 0 && !ask()) return false;
            // The digests tell whether a state has gone astray that no answer has shown yet.
            if (i % 32 == 0 && !agree("digest() behind " + call, () -> court.digest(), () -> slow.digest())) return false;
        }
        return agree("digest() at the end", () -> court.digest(), () -> slow.digest());
    }

    public static void main(String[] args) {
        int wrong = 0;
        int named = 0;
        int moved = 0;
        for (int seed = 1; seed <= RUNS; seed++) {
            RandomRunsTest run = new RandomRunsTest(seed);
            if (!run.isRight()) {
                System.out.println("  in the run of seed " + seed);
                wrong++;
            }
            named += run.slow.many(7);
            moved += run.slow.many(6);
        }
        if (named < RUNS / 2 || moved < RUNS / 2) {
            System.out.println("the runs reach too little: " + named + " named, " + moved + " moved");
            wrong++;
        }
        System.out.println("RandomRunsTest: " + RUNS + " runs, " + wrong + " wrong, " + named + " changes named, " + moved + " steps moved");
        if (wrong != 0) System.exit(1);
    }
}
