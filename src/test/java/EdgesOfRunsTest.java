/** The bounds of section 2 and of the calls changes, run, strike, ofRun and ofChange. */
public final class EdgesOfRunsTest {
    private static Trial courtWithRuns(int... times) {
        return new Trial("machine 1 100").runs(0, times);
    }

    private static void sampleIs(Trial court, int change, int size, int middle, int least, int greatest) {
        court.due("ofChange " + change + " 1", size).due("ofChange " + change + " 2", middle);
        court.due("ofChange " + change + " 3", least).due("ofChange " + change + " 4", greatest);
    }

    /** Which of the runs from 0 on are in the sample: one sign a run, 1 or 0. */
    private static void inSample(Trial court, String due) {
        for (int run = 0; run < due.length(); run++) court.due("ofRun " + run + " 5", due.charAt(run));
    }

    private static void atMostForty() {
        Trial.sentence("2: CHANGES are numbered from 0, at most 40");
        Trial court = new Trial();
        court.due("many 1", 1).due("ofChange 0 0", 0).refusesIndex("ofChange 1 0");
        court.due("changes 1", 2).refusesState("changes 39");
        court.due("changes 37", 39).refusesState("changes 2", "changes 39");
        court.due("ofChange 38 0", 0).refusesIndex("ofChange 39 0");
        court.due("changes 1", 40).refusesState("changes 1", "changes 39");
        court.due("many 1", 40).due("ofChange 39 0", 0).refusesIndex("ofChange 40 0");
    }

    private static void manyChanges() {
        Trial.sentence("promise 5: many is not 1 to 39");
        Trial court = new Trial();
        court.refusesArgument("changes 0", "changes 40", "changes -1", "changes MIN", "changes MAX");
        court.due("many 1", 1).due("changes 39", 40);
    }

    private static void noSuchChange() {
        Trial.sentence("promises 6 and 9: there is no such CHANGE");
        Trial court = new Trial("machine 1 100", "changes 1");
        court.due("run 1 0 100", 100).due("ofChange 1 0", 1);
        court.refusesIndex("run 2 0 100", "run -1 0 100", "run MIN 0 100", "run MAX 0 100");
        court.refusesIndex("ofChange 2 0", "ofChange -1 0", "ofChange MIN 0", "ofChange MAX 0");
        court.tell("changes 1").due("run 2 0 100", 100).refusesIndex("run 3 0 100");
        court.tell("changes 37").due("run 39 0 100", 100).refusesIndex("run 40 0 100");
    }

    private static void noMachineToRunOn() {
        Trial.sentence("promise 6: there is no such MACHINE");
        Trial court = new Trial().refusesIndex("run 0 0 100");
        court.tell("machine 1 100").due("run 0 0 100", 100);
        court.refusesIndex("run 0 1 100", "run 0 -1 100", "run 0 MIN 100", "run 0 MAX 100");
        court.tell("machine 1 100", "machine 1 100", "machine 1 100").due("run 0 3 100", 100);
        court.refusesIndex("run 0 4 100");
    }

    private static void atMostEighty() {
        Trial.sentence("2: at most 80 RUNS ever");
        Trial court = new Trial("machine 1 100", "machine 1 100", "changes 1");
        for (int i = 0; i < 79; i++) court.tell("run " + i % 2 + " " + i / 2 % 2 + " 100");
        court.due("many 2", 79).due("run 1 1 100", 100).due("many 2", 80);
        court.refusesState("run 0 0 100", "run 1 1 100");
        court.tell("strike 79", "strike 0").due("many 2", 80).due("many 3", 78).refusesState("run 0 0 100");
        court.tell("measure 1 200").due("many 2", 80).due("many 3", 39).refusesState("run 0 0 100");
        court.due("ofChange 0 0", 40).due("ofChange 1 0", 40).due("many 4", 920);
    }

    private static void runNumbers() {
        Trial.sentence("2: RUNS, numbered from 0: there is no such RUN");
        Trial court = new Trial("machine 1 100").due("many 2", 0).due("many 3", 0);
        court.refusesIndex("strike 0", "ofRun 0 0", "strike -1", "ofRun -1 0");
        court.tell("run 0 0 70", "run 0 0 80").due("ofRun 0 2", 70).due("ofRun 1 2", 80).due("strike 1", 80);
        court.refusesIndex("strike 2", "strike -1", "strike MIN", "strike MAX");
        court.refusesIndex("ofRun 2 0", "ofRun -1 0", "ofRun MIN 0", "ofRun MAX 0");
        for (int i = 2; i < 80; i++) court.tell("run 0 0 " + (i + 1));
        court.due("ofRun 79 2", 80).due("strike 79", 80).refusesIndex("ofRun 80 0", "strike 80");
    }

    private static void time() {
        Trial.sentence("2: a TIME, 1 to 9999");
        Trial court = new Trial("machine 1 100");
        court.refusesArgument("run 0 0 0", "run 0 0 10000", "run 0 0 -1", "run 0 0 MIN", "run 0 0 MAX");
        court.due("run 0 0 1", 1).due("run 0 0 9999", 9999).due("ofRun 0 2", 1).due("ofRun 1 2", 9999);
        court.refusesArgument("run 0 0 0", "run 0 0 10000");
    }

    private static void worth() {
        Trial.sentence("2: WORTH: TIME * 100 / the SCALE; / is cut towards 0");
        Trial court = new Trial("machine 1 200", "machine 1 50", "machine 1 101", "machine 1 150");
        court.due("run 0 0 1", 0).due("run 0 0 2", 1).due("run 0 0 3", 1).due("run 0 0 9999", 4999);
        court.due("run 0 1 1", 2).due("run 0 1 9999", 19998);
        court.due("run 0 2 101", 100).due("run 0 2 100", 99).due("run 0 2 102", 100);
        court.due("run 0 3 199", 132).due("run 0 3 200", 133).due("run 0 3 201", 134);
        Trial nothing = new Trial("machine 1 200").runs(0, 1);
        sampleIs(nothing, 0, 1, 0, 0, 0);
    }

    private static void asItWasTold() {
        Trial.sentence("2: the SCALE that its MACHINE had as it was told");
        Trial court = new Trial("machine 1 100", "run 0 0 150", "measure 0 110", "run 0 0 150");
        court.due("ofRun 0 3", 150).due("ofRun 1 3", 136);
        court.tell("measure 0 200", "measure 0 200", "measure 0 200");
        court.due("ofRun 0 3", 150).due("ofRun 1 3", 136).due("run 0 0 150", 75).due("strike 0", 150);
    }

    private static void counts() {
        Trial.sentence("2: it COUNTS, as long as its MACHINE is not ASIDE, and it is not STRUCK");
        Trial court = new Trial("machine 1 100", "machine 1 100", "run 0 0 10", "run 0 0 20", "run 0 1 30");
        court.due("many 3", 3).due("strike 0", 10).due("many 3", 2).due("ofRun 0 4", 0).due("ofRun 1 4", 1);
        court.tell("measure 0 200").due("many 3", 1).due("ofRun 1 4", 0).due("ofRun 2 4", 1);
        court.due("strike 1", 20).due("many 3", 1);
        court.tell("measure 0 200", "measure 0 200").due("ofMachine 0 2", 0);
        court.due("ofRun 0 4", 0).due("ofRun 1 4", 0).due("many 3", 1);
        court.tell("run 0 0 40", "measure 0 100").due("ofRun 3 4", 0);
        court.tell("measure 0 100", "measure 0 100").due("ofRun 3 4", 1).due("many 3", 2);
    }

    private static void lastSix() {
        Trial.sentence("2: the SAMPLE are its last 6 RUNS that COUNT (all, if there are fewer)");
        Trial court = courtWithRuns();
        sampleIs(court, 0, 0, -1, -1, -1);
        for (int run = 1; run <= 5; run++) court.runs(0, run).due("ofChange 0 1", run);
        inSample(court, "11111");
        court.runs(0, 6).due("ofChange 0 1", 6);
        inSample(court, "111111");
        court.runs(0, 7).due("ofChange 0 1", 6).due("ofChange 0 0", 7);
        inSample(court, "0111111");
        sampleIs(court, 0, 6, 4, 2, 7);
        court.runs(0, 8, 9);
        inSample(court, "000111111");
    }

    private static void olderComeBack() {
        Trial.sentence("2: the last 6 that COUNT: what does not COUNT makes room");
        Trial court = new Trial("machine 1 100", "machine 1 100");
        court.runs(0, 1, 2, 3, 4, 5, 6).tell("run 0 1 7", "run 0 1 8", "run 0 0 9");
        inSample(court, "000111111");
        court.tell("strike 4");
        inSample(court, "001101111");
        court.tell("measure 1 200");
        inSample(court, "111101001");
        sampleIs(court, 0, 6, 3, 1, 9);
        court.tell("measure 1 200", "measure 1 200");
        inSample(court, "001101111");
        court.tell("measure 0 200");
        inSample(court, "000000110");
        sampleIs(court, 0, 2, 7, 7, 8);
        court.tell("strike 6", "strike 7");
        sampleIs(court, 0, 0, -1, -1, -1);
    }

    private static void ofItsChange() {
        Trial.sentence("2: the SAMPLE of a CHANGE are its own RUNS");
        Trial court = new Trial("machine 1 100", "changes 1");
        for (int i = 0; i < 7; i++) court.tell("run 0 0 10", "run 1 0 20");
        inSample(court, "00111111111111");
        sampleIs(court, 0, 6, 10, 10, 10);
        sampleIs(court, 1, 6, 20, 20, 20);
        court.due("ofRun 13 0", 1).due("ofRun 12 0", 0);
    }

    private static void struckTwice() {
        Trial.sentence("promise 7: it is STRUCK");
        Trial court = courtWithRuns(10, 20);
        court.due("strike 0", 10).refusesState("strike 0");
        court.due("strike 1", 20).refusesState("strike 0", "strike 1");
        court.due("many 4", 998).due("many 2", 2).due("ofChange 0 0", 2);
    }

    private static void strikeWhatDoesNotCount() {
        Trial.sentence("promise 7: STRIKES a RUN: out of the SAMPLE, or on a MACHINE that is ASIDE");
        Trial court = courtWithRuns(1, 2, 3, 4, 5, 6, 7);
        court.due("strike 0", 1).due("ofChange 0 1", 6);
        court.tell("measure 0 200").due("strike 6", 7).refusesState("strike 6");
        court.tell("measure 0 200", "measure 0 200");
        inSample(court, "0111110");
    }

    private static void whatOfRun() {
        Trial.sentence("promise 8: what is not 0 to 5");
        Trial court = new Trial("machine 1 100", "machine 1 50", "changes 1", "run 1 1 33");
        court.due("ofRun 0 0", 1).due("ofRun 0 1", 1).due("ofRun 0 2", 33).due("ofRun 0 3", 66);
        court.due("ofRun 0 4", 1).due("ofRun 0 5", 1);
        court.refusesArgument("ofRun 0 -1", "ofRun 0 6", "ofRun 0 MIN", "ofRun 0 MAX");
    }

    private static void whatOfChange() {
        Trial.sentence("promise 9: what is not 0 to 5");
        Trial court = courtWithRuns(10).due("ofChange 0 0", 1).due("ofChange 0 5", 0);
        court.refusesArgument("ofChange 0 -1", "ofChange 0 6", "ofChange 0 MIN", "ofChange 0 MAX");
    }

    private static void middle() {
        Trial.sentence("promise 9: the middle WORTH, sorted, of two the smaller one (NONE without any)");
        sampleIs(courtWithRuns(), 0, 0, -1, -1, -1);
        sampleIs(courtWithRuns(5), 0, 1, 5, 5, 5);
        sampleIs(courtWithRuns(9, 5), 0, 2, 5, 5, 9);
        sampleIs(courtWithRuns(5, 9), 0, 2, 5, 5, 9);
        sampleIs(courtWithRuns(9, 5, 7), 0, 3, 7, 5, 9);
        sampleIs(courtWithRuns(9, 5, 7, 6), 0, 4, 6, 5, 9);
        sampleIs(courtWithRuns(9, 5, 7, 6, 8), 0, 5, 7, 5, 9);
        sampleIs(courtWithRuns(9, 5, 7, 6, 8, 1), 0, 6, 6, 1, 9);
        sampleIs(courtWithRuns(9, 5, 7, 6, 8, 1, 2), 0, 6, 5, 1, 8);
        sampleIs(courtWithRuns(4, 4, 4, 4, 4, 4), 0, 6, 4, 4, 4);
        sampleIs(courtWithRuns(4, 8, 8, 4), 0, 4, 4, 4, 8);
        Trial emptied = courtWithRuns(4, 8).tell("strike 0", "strike 1").due("ofChange 0 0", 2);
        sampleIs(emptied, 0, 0, -1, -1, -1);
    }

    private static void ever() {
        Trial.sentence("promise 9: how many RUNS it has ever");
        Trial court = courtWithRuns(1, 2, 3, 4, 5, 6, 7).due("ofChange 0 0", 7);
        court.tell("strike 0", "strike 6").due("ofChange 0 0", 7);
        court.tell("measure 0 200").due("ofChange 0 0", 7).due("ofChange 0 1", 0);
    }

    private static void aside() {
        Trial.sentence("promise 6: the MACHINE is ASIDE");
        Trial court = new Trial("machine 1 100", "measure 0 111").refusesState("run 0 0 100");
        new Trial("machine 1 100", "measure 0 110").due("run 0 0 110", 100);
        court.tell("measure 0 111", "measure 0 111").due("run 0 0 111", 100);
    }

    private static void orderOfRun() {
        Trial.sentence("6: the exception that is named first: run");
        Trial court = new Trial("machine 60 100", "machine 60 100", "measure 1 200");
        court.refusesIndex("run 1 1 0", "run -1 1 100", "run 0 2 0", "run 0 -1 10000", "run 1 2 0");
        court.refusesArgument("run 0 1 0", "run 0 1 10000");
        for (int i = 0; i < 16; i++) court.tell("run 0 0 100");
        court.refusesState("run 0 0 100").refusesArgument("run 0 0 0").refusesIndex("run 1 0 0");
        Trial full = new Trial("machine 1 100");
        for (int i = 0; i < 80; i++) full.tell("run 0 0 100");
        full.refusesState("run 0 0 100").refusesArgument("run 0 0 0", "run 0 0 10000").refusesIndex("run 1 0 0", "run 0 1 100");
    }

    private static void orderOfOthers() {
        Trial.sentence("6: the exception that is named first: changes, ofRun, ofChange");
        Trial court = new Trial("machine 1 100", "changes 39").runs(0, 10);
        court.refusesArgument("changes 0", "changes 40", "changes MAX");
        court.refusesIndex("ofRun 1 6", "ofRun -1 -1", "ofChange 40 6", "ofChange -1 -1");
    }

    public static void main(String[] args) {
        atMostForty();
        manyChanges();
        noSuchChange();
        noMachineToRunOn();
        atMostEighty();
        runNumbers();
        time();
        worth();
        asItWasTold();
        counts();
        lastSix();
        olderComeBack();
        ofItsChange();
        struckTwice();
        strikeWhatDoesNotCount();
        whatOfRun();
        whatOfChange();
        middle();
        ever();
        aside();
        orderOfRun();
        orderOfOthers();
        Trial.close("EdgesOfRunsTest");
    }
}
