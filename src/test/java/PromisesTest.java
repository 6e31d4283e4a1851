import java.util.concurrent.Callable;

/** A test for each promise of the document, with answers worked out by hand. */
public final class PromisesTest {
    private static final String INDEX = Answers.INDEX;
    private static final String ARGUMENT = Answers.ARGUMENT;
    private static final String STATE = Answers.STATE;

    private static int promise;
    private static int asked = 0;
    private static int wrong = 0;

    private static void due(String what, Callable<Object> call, Object due) {
        asked++;
        String got = Answers.of(call);
        if (!got.equals(String.valueOf(due))) {
            wrong++;
            System.out.println("promise " + promise + ": " + what + " answered " + got + ", due is " + due);
        }
    }

    /** The call throws, and nothing has changed behind it. */
    private static void refused(RegressionCourt court, String what, Callable<Object> call, String due) {
        long before = court.digest();
        due(what, call, due);
        due("digest() behind the refused " + what, () -> court.digest(), before);
    }

    private static RegressionCourt courtWith(int changes) {
        RegressionCourt court = new RegressionCourt();
        court.machine(1, 100);
        if (changes > 1) court.changes(changes - 1);
        return court;
    }

    private static void tell(RegressionCourt court, int change, int... times) {
        for (int time : times) court.run(change, 0, time);
    }

    /** Changes 0 to changes - 1 of six runs each; from slowFrom on they are slower. */
    private static RegressionCourt courtSlowFrom(int changes, int slowFrom) {
        RegressionCourt court = courtWith(changes);
        for (int c = 0; c < changes; c++) {
            int t = c < slowFrom ? 100 : 200;
            tell(court, c, t, t, t, t, t, t);
        }
        return court;
    }

    private static void newObject() {
        RegressionCourt court = new RegressionCourt();
        int[] due = {0, 1, 0, 0, 1000, 100, 0, 0, 0};
        for (int what = 0; what <= 8; what++) {
            int w = what;
            due("many(" + w + ")", () -> court.many(w), due[w]);
        }
        for (int what = 0; what <= 3; what++) {
            int w = what;
            due("ofCase(" + w + ")", () -> court.ofCase(w), -1);
        }
        due("ofChange(0, 0)", () -> court.ofChange(0, 0), 0);
        due("ofChange(1, 0)", () -> court.ofChange(1, 0), INDEX);
        due("rule(3, 50)", () -> court.rule(3, 50), 50);
        RegressionCourt three = courtWith(2);
        tell(three, 0, 100, 100, 100);
        tell(three, 1, 200, 200);
        due("verdict(0, 1, 0) with two runs, ENOUGH 3", () -> three.verdict(0, 1, 0), 0);
        tell(three, 1, 200);
        due("verdict(0, 1, 0) with three", () -> three.verdict(0, 1, 0), 1);
    }

    private static void machine() {
        RegressionCourt court = new RegressionCourt();
        refused(court, "machine(0, 100)", () -> court.machine(0, 100), ARGUMENT);
        refused(court, "machine(61, 100)", () -> court.machine(61, 100), ARGUMENT);
        refused(court, "machine(1, 49)", () -> court.machine(1, 49), ARGUMENT);
        refused(court, "machine(1, 201)", () -> court.machine(1, 201), ARGUMENT);
        due("machine(1, 50)", () -> court.machine(1, 50), 0);
        due("machine(60, 200)", () -> court.machine(60, 200), 1);
        due("machine(7, 120)", () -> court.machine(7, 120), 2);
        due("machine(7, 120)", () -> court.machine(7, 120), 3);
        due("ofMachine(1, 0)", () -> court.ofMachine(1, 0), 60);
        due("ofMachine(1, 1)", () -> court.ofMachine(1, 1), 200);
        refused(court, "a fifth machine", () -> court.machine(7, 120), STATE);
        refused(court, "a fifth machine, wrong", () -> court.machine(0, 120), ARGUMENT);
        due("many(0)", () -> court.many(0), 4);
    }

    private static void measure() {
        RegressionCourt court = new RegressionCourt();
        refused(court, "measure(0, 10) without machines", () -> court.measure(0, 10), INDEX);
        court.machine(1, 100);
        refused(court, "measure(-1, 100)", () -> court.measure(-1, 100), INDEX);
        refused(court, "measure(1, 100)", () -> court.measure(1, 100), INDEX);
        refused(court, "measure(0, 49)", () -> court.measure(0, 49), ARGUMENT);
        refused(court, "measure(0, 201)", () -> court.measure(0, 201), ARGUMENT);
        due("measure(0, 110): just 10 of 100", () -> court.measure(0, 110), false);
        due("measure(0, 111): above", () -> court.measure(0, 111), true);
        due("measure(0, 111): 100 is out of the last three", () -> court.measure(0, 111), false);
        due("measure(0, 100): 111 against 100", () -> court.measure(0, 100), true);
        due("measure(0, 104)", () -> court.measure(0, 104), true);
        due("measure(0, 104): back", () -> court.measure(0, 104), false);
        due("measure(0, 50)", () -> court.measure(0, 50), true);
        due("measure(0, 200)", () -> court.measure(0, 200), true);
        RegressionCourt waiting = courtWith(2);
        waiting.begin(0, 1);
        tell(waiting, 1, 100);
        due("ofCase(2) while 0 has fewer", () -> waiting.ofCase(2), 0);
        waiting.measure(0, 200);
        due("ofCase(2) when neither counts: the case went on", () -> waiting.ofCase(2), 1);
    }

    private static void ofMachine() {
        RegressionCourt court = courtWith(2);
        court.machine(9, 120);
        tell(court, 0, 5, 6);
        tell(court, 1, 7);
        court.strike(0);
        court.measure(0, 105);
        court.measure(0, 120);
        int[] due = {1, 120, 1, 3, 3};
        int[] dueOfOther = {9, 120, 0, 0, 1};
        for (int what = 0; what <= 4; what++) {
            int w = what;
            due("ofMachine(0, " + w + ")", () -> court.ofMachine(0, w), due[w]);
            due("ofMachine(1, " + w + ")", () -> court.ofMachine(1, w), dueOfOther[w]);
        }
        due("ofMachine(2, 9)", () -> court.ofMachine(2, 9), INDEX);
        due("ofMachine(-1, 0)", () -> court.ofMachine(-1, 0), INDEX);
        due("ofMachine(0, 5)", () -> court.ofMachine(0, 5), ARGUMENT);
        due("ofMachine(0, -1)", () -> court.ofMachine(0, -1), ARGUMENT);
    }

    private static void changes() {
        RegressionCourt court = new RegressionCourt();
        refused(court, "changes(0)", () -> court.changes(0), ARGUMENT);
        refused(court, "changes(40)", () -> court.changes(40), ARGUMENT);
        refused(court, "changes(MIN)", () -> court.changes(Integer.MIN_VALUE), ARGUMENT);
        due("changes(1)", () -> court.changes(1), 2);
        refused(court, "changes(39): 41 in all", () -> court.changes(39), STATE);
        due("changes(38)", () -> court.changes(38), 40);
        refused(court, "changes(1) behind 40", () -> court.changes(1), STATE);
        due("ofChange(39, 0)", () -> court.ofChange(39, 0), 0);
        due("changes(39) at once", () -> new RegressionCourt().changes(39), 40);
    }

    private static void run() {
        RegressionCourt court = courtWith(2);
        court.machine(60, 150);
        refused(court, "run(2, 0, 0)", () -> court.run(2, 0, 0), INDEX);
        refused(court, "run(-1, 0, 1)", () -> court.run(-1, 0, 1), INDEX);
        refused(court, "run(0, 2, 1)", () -> court.run(0, 2, 1), INDEX);
        refused(court, "run(0, -1, 1)", () -> court.run(0, -1, 1), INDEX);
        refused(court, "run(0, 0, 0)", () -> court.run(0, 0, 0), ARGUMENT);
        refused(court, "run(0, 0, 10000)", () -> court.run(0, 0, 10000), ARGUMENT);
        due("run(0, 1, 200): 133.3 is cut", () -> court.run(0, 1, 200), 133);
        due("run(1, 0, 9999)", () -> court.run(1, 0, 9999), 9999);
        due("run(1, 1, 1): 0.66 is cut", () -> court.run(1, 1, 1), 0);
        due("many(4): 60 + 1 + 60 gone", () -> court.many(4), 879);
        court.measure(1, 160);
        due("ofRun(0, 3): the scale as it was told", () -> court.ofRun(0, 3), 133);
        due("run(0, 1, 200) with the new scale", () -> court.run(0, 1, 200), 125);
        court.measure(1, 200);
        refused(court, "run on a machine aside", () -> court.run(0, 1, 100), STATE);
        refused(court, "run on a machine aside, wrong time", () -> court.run(0, 1, 0), ARGUMENT);
        runOutOfMinutes();
        runOutOfRuns();
        RegressionCourt waiting = courtWith(2);
        waiting.begin(0, 1);
        waiting.run(1, 0, 5);
        due("ofCase(2) behind a run: the case went on", () -> waiting.ofCase(2), 0);
    }

    private static void runOutOfMinutes() {
        RegressionCourt court = new RegressionCourt();
        court.machine(60, 100);
        court.machine(40, 100);
        for (int i = 0; i < 16; i++) court.run(0, 0, 100);
        refused(court, "run for 60 with 40 minutes left", () -> court.run(0, 0, 100), STATE);
        due("run for 40 with 40 left", () -> court.run(0, 1, 100), 100);
        due("many(4)", () -> court.many(4), 0);
        refused(court, "run with no minutes", () -> court.run(0, 1, 100), STATE);
    }

    private static void runOutOfRuns() {
        RegressionCourt court = courtWith(1);
        for (int i = 0; i < 80; i++) court.run(0, 0, 100);
        refused(court, "run 81", () -> court.run(0, 0, 100), STATE);
        court.strike(79);
        refused(court, "run 81 behind a strike", () -> court.run(0, 0, 100), STATE);
        due("many(2)", () -> court.many(2), 80);
    }

    private static void strike() {
        RegressionCourt court = courtWith(2);
        refused(court, "strike(0) without runs", () -> court.strike(0), INDEX);
        tell(court, 0, 11, 12);
        refused(court, "strike(-1)", () -> court.strike(-1), INDEX);
        refused(court, "strike(2)", () -> court.strike(2), INDEX);
        due("strike(1)", () -> court.strike(1), 12);
        due("ofRun(1, 4)", () -> court.ofRun(1, 4), 0);
        due("ofRun(0, 4)", () -> court.ofRun(0, 4), 1);
        refused(court, "strike(1) again", () -> court.strike(1), STATE);
        due("many(4): the minutes stay gone", () -> court.many(4), 998);
        tell(court, 1, 13);
        court.begin(0, 1);
        due("ofCase(2)", () -> court.ofCase(2), 1);
        court.strike(0);
        due("ofCase(2) behind strike(0): the case went on", () -> court.ofCase(2), 0);
        court.measure(0, 200);
        due("strike(2) on a machine aside", () -> court.strike(2), 13);
    }

    private static void ofRun() {
        RegressionCourt court = courtWith(2);
        court.machine(2, 50);
        tell(court, 1, 7, 8, 9, 10, 11, 12);
        court.run(1, 1, 77);
        int[] due = {1, 1, 77, 154, 1, 1};
        for (int what = 0; what <= 5; what++) {
            int w = what;
            due("ofRun(6, " + w + ")", () -> court.ofRun(6, w), due[w]);
        }
        due("ofRun(0, 4): it counts", () -> court.ofRun(0, 4), 1);
        due("ofRun(0, 5): but six came behind", () -> court.ofRun(0, 5), 0);
        due("ofRun(1, 5)", () -> court.ofRun(1, 5), 1);
        court.measure(1, 100);
        due("ofRun(6, 4) aside", () -> court.ofRun(6, 4), 0);
        due("ofRun(6, 5) aside", () -> court.ofRun(6, 5), 0);
        due("ofRun(0, 5): in the sample again", () -> court.ofRun(0, 5), 1);
        due("ofRun(7, 9)", () -> court.ofRun(7, 9), INDEX);
        due("ofRun(-1, 0)", () -> court.ofRun(-1, 0), INDEX);
        due("ofRun(0, 6)", () -> court.ofRun(0, 6), ARGUMENT);
        due("ofRun(0, -1)", () -> court.ofRun(0, -1), ARGUMENT);
    }

    private static void ofChange() {
        RegressionCourt court = courtWith(3);
        tell(court, 0, 1, 90, 30, 50, 70, 20, 60);
        tell(court, 1, 9, 3, 5);
        int[] due = {7, 6, 50, 20, 90, 0};
        int[] dueOfOdd = {3, 3, 5, 3, 9, 0};
        int[] dueOfNone = {0, 0, -1, -1, -1, 0};
        for (int what = 0; what <= 5; what++) {
            int w = what;
            due("ofChange(0, " + w + ")", () -> court.ofChange(0, w), due[w]);
            due("ofChange(1, " + w + ")", () -> court.ofChange(1, w), dueOfOdd[w]);
            due("ofChange(2, " + w + ")", () -> court.ofChange(2, w), dueOfNone[w]);
        }
        court.strike(6);
        due("ofChange(0, 0) counts struck runs", () -> court.ofChange(0, 0), 7);
        due("ofChange(0, 3) behind strike(6)", () -> court.ofChange(0, 3), 1);
        RegressionCourt named = courtSlowFrom(2, 1);
        named.begin(0, 1);
        due("ofChange(1, 5) named", () -> named.ofChange(1, 5), 2);
        named.excuse(1, 1);
        due("ofChange(1, 5) excused", () -> named.ofChange(1, 5), 1);
        due("ofChange(3, 9)", () -> court.ofChange(3, 9), INDEX);
        due("ofChange(-1, 0)", () -> court.ofChange(-1, 0), INDEX);
        due("ofChange(0, 6)", () -> court.ofChange(0, 6), ARGUMENT);
        due("ofChange(0, -1)", () -> court.ofChange(0, -1), ARGUMENT);
    }

    private static void verdictIs(RegressionCourt court, int a, int b, int... due) {
        for (int what = 0; what < due.length; what++) {
            int w = what;
            due("verdict(" + a + ", " + b + ", " + w + ")", () -> court.verdict(a, b, w), due[w]);
        }
    }

    private static void verdict() {
        RegressionCourt court = courtWith(5);
        tell(court, 0, 10, 20, 30);
        tell(court, 1, 40, 50, 60);
        tell(court, 2, 20, 30, 50);
        // Of 20 ways, one is as great as 0 against 1: 1 * 1000 is not above 50 * 20.
        verdictIs(court, 0, 1, 1, 18, 1, 20, 20);
        verdictIs(court, 1, 0, 2, 0, 20, 1, 20);
        verdictIs(court, 0, 2, 4, 14, 5, 19, 20);
        verdictIs(court, 0, 0, 4, 9, 14, 14, 20);
        verdictIs(court, 0, 3, 0, 0, 1, 1, 1);
        verdictIs(court, 3, 4, 0, 0, 1, 1, 1);
        court.rule(3, 49);
        verdictIs(court, 0, 1, 4, 18, 1, 20, 20);
        verdictIs(court, 1, 0, 4, 0, 20, 1, 20);
        court.rule(4, 50);
        verdictIs(court, 0, 1, 0, 18, 1, 20, 20);
        tell(court, 3, 5, 5, 5, 5, 5, 5);
        tell(court, 4, 5, 5, 5, 5, 5);
        verdictIs(court, 3, 4, 4, 30, 462, 462, 462);
        tell(court, 4, 5);
        verdictIs(court, 3, 4, 3, 36, 924, 924, 924);
        verdictIs(court, 3, 3, 3, 36, 924, 924, 924);
        verdictIs(court, 0, 4, 0, 0, 84, 1, 84);
        due("verdict(5, 0, 9)", () -> court.verdict(5, 0, 9), INDEX);
        due("verdict(0, -1, 0)", () -> court.verdict(0, -1, 0), INDEX);
        due("verdict(0, 0, 5)", () -> court.verdict(0, 0, 5), ARGUMENT);
        due("verdict(0, 0, -1)", () -> court.verdict(0, 0, -1), ARGUMENT);
    }

    private static void doubt() {
        RegressionCourt court = courtWith(3);
        due("doubt(0, 1) without runs", () -> court.doubt(0, 1), 1.0);
        tell(court, 0, 10, 20, 30);
        tell(court, 1, 40, 50, 60);
        due("doubt(0, 1)", () -> court.doubt(0, 1), 0.05);
        due("doubt(1, 0)", () -> court.doubt(1, 0), 1.0);
        due("doubt(0, 0)", () -> court.doubt(0, 0), 0.7);
        due("doubt(0, 2)", () -> court.doubt(0, 2), 1.0);
        due("doubt(3, 0)", () -> court.doubt(3, 0), INDEX);
        due("doubt(0, -1)", () -> court.doubt(0, -1), INDEX);
    }

    private static void rule() {
        RegressionCourt court = courtWith(2);
        refused(court, "rule(1, 50)", () -> court.rule(1, 50), ARGUMENT);
        refused(court, "rule(7, 50)", () -> court.rule(7, 50), ARGUMENT);
        refused(court, "rule(3, 0)", () -> court.rule(3, 0), ARGUMENT);
        refused(court, "rule(3, 201)", () -> court.rule(3, 201), ARGUMENT);
        due("rule(2, 200)", () -> court.rule(2, 200), 50);
        due("rule(6, 1)", () -> court.rule(6, 1), 200);
        due("rule(6, 1)", () -> court.rule(6, 1), 1);
        tell(court, 0, 10, 20);
        tell(court, 1, 30, 40);
        court.begin(0, 1);
        court.rule(2, 166);
        due("many(7) with one of six ways, LEVEL 166", () -> court.many(7), 0);
        court.rule(2, 167);
        due("many(7) with LEVEL 167: the case went on", () -> court.many(7), 1);
        due("verdict(0, 1, 0)", () -> court.verdict(0, 1, 0), 1);
    }

    private static void begin() {
        RegressionCourt court = courtWith(8);
        refused(court, "begin(8, 0)", () -> court.begin(8, 0), INDEX);
        refused(court, "begin(0, 8)", () -> court.begin(0, 8), INDEX);
        refused(court, "begin(-1, 3)", () -> court.begin(-1, 3), INDEX);
        refused(court, "begin(3, 3)", () -> court.begin(3, 3), ARGUMENT);
        refused(court, "begin(4, 3)", () -> court.begin(4, 3), ARGUMENT);
        due("begin(0, 7)", () -> court.begin(0, 7), 3);
        refused(court, "begin(1, 2) while there is a case", () -> court.begin(1, 2), STATE);
        refused(court, "begin(2, 1) while there is a case", () -> court.begin(2, 1), ARGUMENT);
        tell(court, 3, 100);
        due("ofCase(2): 0 has fewer", () -> court.ofCase(2), 0);
        tell(court, 0, 100, 100, 100, 100, 100, 100);
        tell(court, 3, 200);
        due("ofCase(2): 3 has fewer", () -> court.ofCase(2), 3);
        tell(court, 3, 200, 200, 200, 200, 200);
        due("ofCase(1): 3 is slower", () -> court.ofCase(1), 3);
        due("ofCase(2): 1 is next", () -> court.ofCase(2), 1);
        RegressionCourt slow = courtSlowFrom(8, 5);
        due("begin(0, 7) with all runs", () -> slow.begin(0, 7), -1);
        due("ofCase(3)", () -> slow.ofCase(3), 5);
        due("begin(5, 6): the same", () -> slow.begin(5, 6), -1);
        due("begin(0, 4): the same", () -> slow.begin(0, 4), -1);
        due("many(7)", () -> slow.many(7), 1);
        RegressionCourt fast = courtSlowFrom(2, 2);
        fast.changes(1);
        tell(fast, 2, 50, 50, 50);
        due("begin(1, 2): faster", () -> fast.begin(1, 2), -1);
        due("begin(0, 2): faster", () -> fast.begin(0, 2), -1);
        due("many(7)", () -> fast.many(7), 0);
    }

    private static void drop() {
        RegressionCourt court = courtWith(8);
        refused(court, "drop() without a case", () -> court.drop(), STATE);
        court.begin(1, 7);
        due("drop()", () -> court.drop(), 5);
        refused(court, "drop() again", () -> court.drop(), STATE);
        court.begin(1, 2);
        due("drop() of neighbours", () -> court.drop(), 0);
        due("ofCase(0)", () -> court.ofCase(0), -1);
        due("ofCase(3)", () -> court.ofCase(3), -1);
        RegressionCourt over = courtSlowFrom(2, 1);
        over.begin(0, 1);
        refused(over, "drop() of a case that is over", () -> over.drop(), STATE);
    }

    private static void ofCase() {
        RegressionCourt court = courtSlowFrom(5, 3);
        court.changes(4);
        court.begin(0, 8);
        due("ofCase(0) of a case that is over", () -> court.ofCase(0), -1);
        due("ofCase(1)", () -> court.ofCase(1), -1);
        due("ofCase(2)", () -> court.ofCase(2), -1);
        due("ofCase(3)", () -> court.ofCase(3), 3);
        court.begin(2, 7);
        due("ofCase(0)", () -> court.ofCase(0), -1);
        court.begin(4, 8);
        due("ofCase(0)", () -> court.ofCase(0), 4);
        due("ofCase(1)", () -> court.ofCase(1), 8);
        due("ofCase(2)", () -> court.ofCase(2), 6);
        tell(court, 6, 400, 400, 400, 400, 400, 400);
        tell(court, 5, 300, 300, 300, 300, 300, 300);
        due("ofCase(3), named last", () -> court.ofCase(3), 5);
        court.begin(2, 3);
        due("ofCase(3), named once more", () -> court.ofCase(3), 3);
        due("many(7)", () -> court.many(7), 2);
        due("ofCase(4)", () -> court.ofCase(4), ARGUMENT);
        due("ofCase(-1)", () -> court.ofCase(-1), ARGUMENT);
    }

    private static void move() {
        RegressionCourt court = courtWith(7);
        tell(court, 0, 90, 90, 90, 90, 90, 90);
        tell(court, 1, 90, 90, 90, 90, 90, 90);
        tell(court, 2, 80, 80, 80, 80, 80, 80);
        tell(court, 3, 85, 85, 85, 85, 85, 85);
        tell(court, 4, 70, 70, 70, 70, 70);
        tell(court, 5, 71, 71, 71, 71, 71, 71);
        due("move(): 3 is slower", () -> court.move(), 2);
        due("many(5): 1 is the same, 2 faster", () -> court.many(5), 110);
        due("move() again", () -> court.move(), 2);
        due("many(5)", () -> court.many(5), 110);
        court.begin(2, 3);
        court.excuse(3, 100);
        due("move(): 3 is excused, 4 faster, 5 slower", () -> court.move(), 4);
        due("many(5)", () -> court.many(5), 20);
        court.begin(4, 5);
        due("many(7)", () -> court.many(7), 2);
        court.excuse(5, 1);
        for (int r = 29; r < 35; r++) court.strike(r);
        due("move(): 5 is excused, 6 is open", () -> court.move(), 5);
        due("many(6)", () -> court.many(6), 5);
        due("many(5): an excused change gives nothing", () -> court.many(5), 19);
        due("move() of a new court", () -> new RegressionCourt().move(), 0);
        excusedFasterGivesNothing();
    }

    private static void excusedFasterGivesNothing() {
        RegressionCourt court = courtSlowFrom(2, 1);
        court.begin(0, 1);
        court.excuse(1, 5);
        tell(court, 1, 50, 50, 50, 50, 50, 50);
        due("verdict(0, 1, 0)", () -> court.verdict(0, 1, 0), 2);
        due("move()", () -> court.move(), 1);
        due("many(5)", () -> court.many(5), 95);
    }

    private static void excuse() {
        RegressionCourt court = courtSlowFrom(3, 1);
        tell(court, 2, 300, 300, 300, 300, 300, 300);
        refused(court, "excuse(3, 0)", () -> court.excuse(3, 0), INDEX);
        refused(court, "excuse(-1, 1)", () -> court.excuse(-1, 1), INDEX);
        refused(court, "excuse(1, 0)", () -> court.excuse(1, 0), ARGUMENT);
        refused(court, "excuse(1, 101)", () -> court.excuse(1, 101), ARGUMENT);
        refused(court, "excuse(1, 1), not named", () -> court.excuse(1, 1), STATE);
        court.begin(0, 1);
        court.begin(1, 2);
        due("excuse(1, 60)", () -> court.excuse(1, 60), 40);
        refused(court, "excuse(1, 1) again", () -> court.excuse(1, 1), STATE);
        refused(court, "excuse(2, 41), credit 40", () -> court.excuse(2, 41), STATE);
        due("excuse(2, 40)", () -> court.excuse(2, 40), 0);
        due("many(5)", () -> court.many(5), 0);
        court.begin(0, 1);
        due("ofChange(1, 5) named once more: still excused", () -> court.ofChange(1, 5), 1);
    }

    private static void budget() {
        RegressionCourt court = new RegressionCourt();
        refused(court, "budget(0)", () -> court.budget(0), ARGUMENT);
        refused(court, "budget(5001)", () -> court.budget(5001), ARGUMENT);
        due("budget(1)", () -> court.budget(1), 1001);
        due("budget(3998)", () -> court.budget(3998), 4999);
        due("budget(2)", () -> court.budget(2), 5000);
        due("budget(5000)", () -> court.budget(5000), 5000);
        due("many(4)", () -> court.many(4), 5000);
    }

    private static void many() {
        RegressionCourt court = courtSlowFrom(3, 1);
        court.machine(5, 100);
        court.machine(5, 100);
        court.run(2, 1, 50);
        court.strike(0);
        court.begin(0, 1);
        court.excuse(1, 30);
        court.move();
        court.measure(1, 150);
        int[] due = {3, 3, 19, 17, 977, 70, 2, 1, 1};
        for (int what = 0; what <= 8; what++) {
            int w = what;
            due("many(" + w + ")", () -> court.many(w), due[w]);
        }
        due("many(9)", () -> court.many(9), ARGUMENT);
        due("many(-1)", () -> court.many(-1), ARGUMENT);
    }

    private static void minutesFor() {
        RegressionCourt court = new RegressionCourt();
        court.changes(1);
        due("minutesFor(0) without machines", () -> court.minutesFor(0), -1);
        court.machine(7, 100);
        court.machine(3, 100);
        court.machine(5, 100);
        due("minutesFor(0)", () -> court.minutesFor(0), 18);
        court.run(0, 0, 10);
        court.run(0, 1, 10);
        due("minutesFor(0) with two", () -> court.minutesFor(0), 12);
        court.measure(1, 200);
        due("minutesFor(0) with the cheapest aside", () -> court.minutesFor(0), 25);
        for (int i = 0; i < 5; i++) court.run(0, 0, 10);
        due("minutesFor(0) with six", () -> court.minutesFor(0), 0);
        due("minutesFor(1)", () -> court.minutesFor(1), 30);
        court.measure(0, 200);
        court.measure(2, 200);
        due("minutesFor(0) with all aside", () -> court.minutesFor(0), -1);
        due("minutesFor(2)", () -> court.minutesFor(2), INDEX);
        due("minutesFor(-1)", () -> court.minutesFor(-1), INDEX);
    }

    private static void verdictWith() {
        RegressionCourt court = courtWith(3);
        tell(court, 0, 10, 20, 30);
        tell(court, 1, 40, 50);
        due("verdictWith(0, 1, 60)", () -> court.verdictWith(0, 1, 60), 1);
        due("verdictWith(0, 1, 20)", () -> court.verdictWith(0, 1, 20), 4);
        due("verdictWith(1, 0, 60): 1 has two", () -> court.verdictWith(1, 0, 60), 0);
        due("verdictWith(0, 2, 60): 2 would have one", () -> court.verdictWith(0, 2, 60), 0);
        theOldestDropsOut();
        withItself();
        refused(court, "verdictWith(3, 0, 0)", () -> court.verdictWith(3, 0, 0), INDEX);
        refused(court, "verdictWith(0, -1, 1)", () -> court.verdictWith(0, -1, 1), INDEX);
        refused(court, "verdictWith(0, 0, 0)", () -> court.verdictWith(0, 0, 0), ARGUMENT);
        refused(court, "verdictWith(0, 0, 20001)", () -> court.verdictWith(0, 0, 20001), ARGUMENT);
        long before = court.digest();
        court.verdictWith(0, 2, 1);
        due("digest() behind verdictWith", () -> court.digest(), before);
    }

    private static void theOldestDropsOut() {
        RegressionCourt court = courtWith(3);
        tell(court, 0, 50, 50, 50, 50, 50, 50);
        tell(court, 1, 1, 1, 99, 99, 99, 99);
        tell(court, 2, 99, 1, 1, 99, 99, 99);
        due("verdict(0, 1, 0)", () -> court.verdict(0, 1, 0), 3);
        due("verdictWith(0, 1, 99): the 1 ahead drops out", () -> court.verdictWith(0, 1, 99), 1);
        due("verdictWith(0, 1, 20000)", () -> court.verdictWith(0, 1, 20000), 1);
        due("verdictWith(0, 1, 1)", () -> court.verdictWith(0, 1, 1), 3);
        due("verdictWith(0, 2, 99): the 99 ahead drops out", () -> court.verdictWith(0, 2, 99), 3);
        due("verdictWith(1, 0, 50): a keeps its six", () -> court.verdictWith(1, 0, 50), 3);
    }

    private static void withItself() {
        RegressionCourt court = courtWith(1);
        tell(court, 0, 10, 10);
        court.rule(2, 100);
        due("verdictWith(0, 0, 10)", () -> court.verdictWith(0, 0, 10), 4);
        court.rule(3, 100);
        due("verdictWith(0, 0, 10): a has two, b three", () -> court.verdictWith(0, 0, 10), 0);
        tell(court, 0, 10, 10, 10);
        due("verdictWith(0, 0, 10): a has five, b six", () -> court.verdictWith(0, 0, 10), 4);
        tell(court, 0, 10);
        due("verdictWith(0, 0, 10): both six", () -> court.verdictWith(0, 0, 10), 3);
    }

    private static void without() {
        RegressionCourt court = courtWith(4);
        court.machine(1, 100);
        court.machine(1, 100);
        for (int i = 0; i < 3; i++) court.run(0, 1, 10);
        tell(court, 0, 1, 2, 3, 4, 5, 6);
        tell(court, 1, 1, 2, 3);
        court.run(1, 1, 10);
        court.run(2, 1, 10);
        court.strike(court.many(2) - 1);
        due("without(1): 0 has six others, 2 a struck one", () -> court.without(1), 1);
        due("without(0): both have fewer", () -> court.without(0), 2);
        due("without(2)", () -> court.without(2), 0);
        court.strike(3);
        due("without(1) when 0 has five others", () -> court.without(1), 2);
        court.measure(1, 200);
        due("without(1) if it is aside", () -> court.without(1), 0);
        due("without(3)", () -> court.without(3), INDEX);
        due("without(-1)", () -> court.without(-1), INDEX);
    }

    private static void wouldMove() {
        RegressionCourt court = courtWith(4);
        tell(court, 0, 90, 90, 90, 90, 90, 90);
        tell(court, 1, 80, 80, 80, 80, 80, 80);
        tell(court, 2, 80, 80, 80, 80, 80, 80);
        tell(court, 3, 81, 81, 81, 81, 81, 81);
        due("wouldMove()", () -> court.wouldMove(), 2);
        due("many(6)", () -> court.many(6), 0);
        due("many(5)", () -> court.many(5), 100);
        court.move();
        due("wouldMove() behind move()", () -> court.wouldMove(), 2);
        court.begin(2, 3);
        court.excuse(3, 1);
        due("wouldMove() with 3 excused", () -> court.wouldMove(), 3);
        due("many(6)", () -> court.many(6), 2);
        due("wouldMove() of a new court", () -> new RegressionCourt().wouldMove(), 0);
    }

    private static long digested(int... values) {
        long d = 5750;
        for (int value : values) d = d * 31 + value;
        return d;
    }

    private static void digest() {
        due("digest() of a new court", () -> new RegressionCourt().digest(),
                digested(0, 1, 0, 0, 1000, 100, 0, 0, 0, 0, 0, -1, -1, -1, 0, -1, -1, -1, -1, -1, 0));
        RegressionCourt court = new RegressionCourt();
        court.changes(2);
        court.machine(4, 100);
        court.machine(2, 50);
        court.run(0, 0, 30);
        court.run(1, 1, 20);
        court.run(1, 0, 30);
        court.begin(0, 2);
        due("digest()", () -> court.digest(), digested(
                2, 3, 3, 3, 990, 100, 0, 0, 0,
                4, 100, 0, 2, 1, 2, 2, 50, 0, 1, 1, 1,
                1, 1, 30, 30, 30, 0, 10, 2, 2, 30, 30, 40, 0, 8, 0, 0, -1, -1, -1, 0, 12,
                0, 0, 30, 30, 1, 1, 1, 1, 20, 40, 1, 1, 1, 0, 30, 30, 1, 1,
                0, 3, 2, 3, 3, 0, 0, 1, 1, 1,
                0, 2, 0, -1, 0));
    }

    private static void test(int number, Runnable body) {
        promise = number;
        body.run();
    }

    public static void main(String[] args) {
        Runnable[] tests = {
            PromisesTest::newObject, PromisesTest::machine, PromisesTest::measure, PromisesTest::ofMachine,
            PromisesTest::changes, PromisesTest::run, PromisesTest::strike, PromisesTest::ofRun,
            PromisesTest::ofChange, PromisesTest::verdict, PromisesTest::doubt, PromisesTest::rule,
            PromisesTest::begin, PromisesTest::drop, PromisesTest::ofCase, PromisesTest::move,
            PromisesTest::excuse, PromisesTest::budget, PromisesTest::many, PromisesTest::minutesFor,
            PromisesTest::verdictWith, PromisesTest::without, PromisesTest::wouldMove, PromisesTest::digest
        };
        for (int i = 0; i < tests.length; i++) test(i + 1, tests[i]);
        System.out.println("PromisesTest: " + tests.length + " promises, " + asked + " answers, " + wrong + " wrong");
        if (wrong != 0) System.exit(1);
    }
}
