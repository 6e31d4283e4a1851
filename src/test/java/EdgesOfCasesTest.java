/** The bounds of section 4 and of the calls begin, drop and ofCase. */
public final class EdgesOfCasesTest {
    /** Two runs are enough, and two of two are apart at LEVEL 200. */
    private static Trial quickCourt(int changes) {
        return new Trial("machine 1 100", "changes " + (changes - 1), "rule 2 200");
    }

    private static void caseIs(Trial court, int good, int bad, int waits) {
        court.due("ofCase 0", good).due("ofCase 1", bad).due("ofCase 2", waits);
    }

    private static void noCase(Trial court, int namedLast) {
        caseIs(court, -1, -1, -1);
        court.due("ofCase 3", namedLast);
    }

    private static void noneYet() {
        Trial.sentence("4: a CASE, before there is any: NONE");
        Trial court = new Trial();
        noCase(court, -1);
        court.due("many 7", 0).refusesState("drop").refusesIndex("begin 0 1").refusesArgument("begin 0 0");
        noCase(court, -1);
    }

    private static void goodSmaller() {
        Trial.sentence("4: GOOD smaller than BAD: bad is not above good");
        Trial court = quickCourt(40);
        court.refusesArgument("begin 0 0", "begin 1 0", "begin 39 39", "begin 39 0", "begin 39 38");
        court.due("begin 0 1", 1).due("drop", 0).due("begin 38 39", 39).due("drop", 0).due("begin 0 39", 19).due("drop", 38);
    }

    private static void noSuchChange() {
        Trial.sentence("promise 13: there is no such CHANGE");
        new Trial().refusesIndex("begin 0 1", "begin 1 2", "begin -1 0");
        Trial court = quickCourt(3);
        for (String bad : new String[] {"3", "-1", "MIN", "MAX"}) court.refusesIndex("begin 0 " + bad, "begin " + bad + " 2");
        court.due("begin 0 2", 1).due("drop", 1);
        court.tell("changes 37").refusesIndex("begin 0 40", "begin 39 40").due("begin 0 39", 19);
    }

    private static void middle() {
        Trial.sentence("4: X is (GOOD + BAD) / 2, or BAD, if that is the next one behind GOOD");
        int[][] cases = {{0, 1, 1}, {0, 2, 1}, {0, 3, 1}, {0, 4, 2}, {1, 2, 2}, {1, 3, 2}, {1, 4, 2}, {2, 5, 3},
            {0, 39, 19}, {1, 39, 20}, {36, 39, 37}, {37, 39, 38}, {38, 39, 39}};
        Trial court = quickCourt(40);
        for (int[] c : cases) {
            court.due("begin " + c[0] + " " + c[1], c[2]);
            caseIs(court, c[0], c[1], c[2]);
            court.due("drop", c[1] - c[0] - 1);
        }
    }

    private static void waitsForFewer() {
        Trial.sentence("4: it WAITS for the one of GOOD and X that has fewer RUNS in its SAMPLE, for X, if both have as many");
        Trial court = new Trial("machine 1 100", "changes 4").due("begin 0 4", 2);
        for (int runs = 0; runs < 5; runs++) {
            court.due("ofCase 2", 2).runs(2, 10).due("ofCase 2", 0).runs(0, 10);
        }
        // Five of each: UNSURE, and for X as before. A sixth one of each is SAME: GOOD becomes 2.
        court.due("verdict 0 2 0", 4).due("ofCase 2", 2).runs(0, 10).due("ofCase 2", 2).runs(2, 10);
        caseIs(court, 2, 4, 3);
        // Only what is in the SAMPLE is looked at: 9 runs, of which 5 are struck, are fewer than 5.
        Trial struck = new Trial("machine 1 100", "changes 1").runs(1, 1, 2, 3, 4, 5, 6, 7, 8, 9).runs(0, 9, 8, 7, 6, 5);
        for (int run = 0; run < 5; run++) struck.tell("strike " + run);
        struck.due("ofChange 1 1", 4).due("begin 0 1", 1);
    }

    private static void fewerInSamples() {
        Trial.sentence("4: in its SAMPLE: 7 RUNS are as many as 6");
        Trial court = new Trial("machine 1 100", "changes 2").runs(0, 10, 10, 10, 10, 10, 10, 10).runs(1, 10, 10, 10, 10, 10);
        court.due("begin 0 1", 1).runs(1, 10);
        noCase(court, -1);
        court.runs(2, 10, 10).due("begin 0 2", 2).due("drop", 0);
    }

    private static void namedAtBad() {
        Trial.sentence("4: SLOWER: if X is BAD already, it is NAMED, and the CASE is over");
        Trial court = quickCourt(2).runs(0, 10, 10).runs(1, 20, 20).due("begin 0 1", -1);
        noCase(court, 1);
        court.due("many 7", 1).due("ofChange 1 5", 2).due("ofChange 0 5", 0).refusesState("drop");
    }

    private static void fasterOrSameAtBad() {
        Trial.sentence("4: FASTER or SAME: if X is BAD, nothing is NAMED, and the CASE is over");
        Trial faster = quickCourt(2).runs(0, 20, 20).runs(1, 10, 10).due("verdict 0 1 0", 2).due("begin 0 1", -1);
        Trial same = quickCourt(2).runs(0, 20, 20, 20, 20, 20, 20).runs(1, 20, 20, 20, 20, 20, 20);
        same.due("verdict 0 1 0", 3).due("begin 0 1", -1);
        for (Trial court : new Trial[] {faster, same}) {
            noCase(court, -1);
            court.due("many 7", 0).due("ofChange 1 5", 0).refusesState("drop");
        }
    }

    private static void slowerAhead() {
        Trial.sentence("4: SLOWER: BAD becomes X");
        Trial court = quickCourt(5).runs(0, 10, 10).runs(2, 20, 20).due("begin 0 4", 1);
        caseIs(court, 0, 2, 1);
        court.runs(1, 20).due("ofCase 2", 1).runs(1, 20);
        noCase(court, 1);
    }

    private static void fasterOrSameAhead() {
        Trial.sentence("4: FASTER or SAME: GOOD becomes X");
        Trial faster = quickCourt(5).runs(0, 20, 20).runs(2, 10, 10).due("begin 0 4", 3);
        caseIs(faster, 2, 4, 3);
        Trial same = quickCourt(5).runs(0, 9, 9, 9, 9, 9, 9).runs(2, 9, 9, 9, 9, 9, 9).due("begin 0 4", 3);
        caseIs(same, 2, 4, 3);
        same.runs(3, 30, 30);
        noCase(same, 3);
    }

    private static void againAndAgain() {
        Trial.sentence("4: this again and again, till it is over: at the most, from 0 to 39");
        Trial slower = quickCourt(40).runs(0, 10, 10);
        for (int x : new int[] {19, 9, 4, 2, 1}) slower.runs(x, 20, 20);
        slower.due("begin 0 39", -1);
        noCase(slower, 1);
        Trial same = new Trial("machine 1 100", "changes 39");
        for (int x : new int[] {0, 19, 29, 34, 36, 37, 38, 39}) same.runs(x, 10, 10, 10, 10, 10, 10);
        same.due("begin 0 39", -1).due("many 7", 0);
        noCase(same, -1);
        Trial faster = quickCourt(40);
        for (int x : new int[] {0, 19, 29, 34, 36, 37, 38, 39}) faster.runs(x, 90 - x, 90 - x);
        faster.due("begin 0 39", -1).due("many 7", 0);
        noCase(faster, -1);
    }

    private static void stopsOnTheWay() {
        Trial.sentence("4: again and again, or the VERDICT is OPEN or UNSURE");
        Trial open = quickCourt(40);
        for (int x : new int[] {0, 19, 29, 34, 37}) open.runs(x, 90 - x, 90 - x);
        open.due("begin 0 39", 36);
        caseIs(open, 34, 39, 36);
        open.due("drop", 4);
        Trial unsure = quickCourt(40).runs(0, 10, 10).runs(19, 20, 20).runs(9, 10, 10, 10).due("begin 0 39", 0);
        caseIs(unsure, 0, 19, 0);
        unsure.due("drop", 18);
    }

    private static void everyOne() {
        Trial.sentence("4: whichever CHANGE is the slow one, it is NAMED");
        for (int slow = 1; slow <= 7; slow++) {
            Trial court = new Trial("machine 1 100", "changes 7");
            for (int c = 0; c < 8; c++) {
                int t = c < slow ? 10 : 20;
                court.runs(c, t, t, t, t, t, t);
            }
            court.due("begin 0 7", -1).due("many 7", 1);
            noCase(court, slow);
        }
    }

    private static void goesOnWithRun() {
        Trial.sentence("4: a CASE goes on each time that a RUN is told");
        Trial court = quickCourt(3).due("begin 0 1", 1);
        court.runs(1, 20).due("ofCase 2", 0).runs(2, 20).due("ofCase 2", 0);
        court.runs(0, 10).due("ofCase 2", 1).runs(0, 10).due("ofCase 2", 1);
        court.due("many 7", 0).runs(1, 20).due("many 7", 1);
        noCase(court, 1);
    }

    private static void goesOnWithStrike() {
        Trial.sentence("4: a CASE goes on each time that a RUN is STRUCK");
        Trial court = quickCourt(2).runs(0, 10, 10, 30).runs(1, 20, 20).due("begin 0 1", 1).due("verdict 0 1 0", 4);
        court.due("strike 2", 30);
        noCase(court, 1);
        Trial waiting = quickCourt(2).runs(0, 10).runs(1, 20).due("begin 0 1", 1);
        waiting.tell("strike 0").due("ofCase 2", 0).tell("strike 1").due("ofCase 2", 1);
    }

    private static void goesOnWithMeasure() {
        Trial.sentence("4: a CASE goes on each time that a MACHINE is measured");
        Trial court = quickCourt(2).tell("machine 1 100", "run 0 0 10", "run 0 0 10", "run 1 1 20", "run 1 1 20");
        court.tell("measure 1 200").due("begin 0 1", 1);
        court.due("measure 0 200", "true").due("ofCase 2", 1).due("measure 1 200", "true").due("measure 1 200", "false");
        court.due("ofCase 2", 0).tell("measure 0 200").due("ofCase 2", 0);
        court.due("measure 0 200", "false");
        noCase(court, 1);
    }

    private static void goesOnWithRule() {
        Trial.sentence("4: a CASE goes on each time that a rule is told");
        Trial court = new Trial("machine 1 100", "changes 1").runs(0, 10, 10).runs(1, 20, 20).due("begin 0 1", 1);
        court.tell("rule 2 166").due("ofCase 2", 1).due("many 7", 0).tell("rule 2 167").due("many 7", 1);
        noCase(court, 1);
    }

    private static void goesOnWithNothingElse() {
        Trial.sentence("4: a refused RUN, strike, measure or rule does not bring a CASE on");
        Trial court = new Trial("machine 1 100", "changes 1").runs(0, 10, 10).runs(1, 20, 20).due("begin 0 1", 1);
        court.refusesArgument("rule 1 167", "rule 2 201", "measure 0 49", "run 0 0 0");
        court.refusesIndex("run 2 0 1", "strike 4", "measure 1 100").due("many 7", 0);
        caseIs(court, 0, 1, 1);
    }

    private static void thereIsOne() {
        Trial.sentence("promise 13: there is a CASE that is not over");
        Trial court = quickCourt(4).due("begin 0 1", 1).refusesState("begin 0 1", "begin 2 3", "begin 0 3");
        caseIs(court, 0, 1, 1);
        court.due("drop", 0).due("begin 2 3", 3).refusesState("begin 2 3");
        court.runs(2, 10, 10).runs(3, 20, 20).due("ofCase 3", 3).due("begin 2 3", -1).due("begin 2 3", -1);
        court.due("begin 0 1", 1).refusesState("begin 2 3");
    }

    private static void drop() {
        Trial.sentence("promise 14: how many CHANGES are between GOOD and BAD, without both; nothing is NAMED");
        Trial court = quickCourt(40).due("begin 0 39", 19).due("drop", 38).refusesState("drop");
        noCase(court, -1);
        court.due("begin 0 1", 1).due("drop", 0).due("begin 7 9", 8).due("drop", 1).due("many 7", 0);
        court.runs(0, 10, 10).runs(19, 20, 20).due("begin 0 39", 9).due("drop", 18);
        noCase(court, -1);
    }

    private static void noneToDrop() {
        Trial.sentence("promise 14: there is none that is not over");
        new Trial().refusesState("drop");
        quickCourt(2).runs(0, 10, 10).runs(1, 20, 20).tell("begin 0 1").refusesState("drop").due("ofCase 3", 1);
        quickCourt(2).tell("begin 0 1", "drop").refusesState("drop");
        quickCourt(2).tell("begin 0 1").runs(0, 20, 20).runs(1, 10, 10).refusesState("drop");
    }

    private static void whatOfCase() {
        Trial.sentence("promise 15: what is not 0 to 3");
        for (Trial court : new Trial[] {new Trial(), quickCourt(3).tell("begin 0 2")}) {
            court.refusesArgument("ofCase -1", "ofCase 4", "ofCase MIN", "ofCase MAX").due("ofCase 3", -1);
        }
    }

    private static void namedLast() {
        Trial.sentence("promise 15: the one that was NAMED last, of all CASES");
        Trial court = quickCourt(4).runs(0, 10, 10).runs(1, 20, 20).runs(2, 30, 30).runs(3, 40, 40);
        court.tell("begin 1 2").due("ofCase 3", 2).tell("begin 0 1").due("ofCase 3", 1).due("many 7", 2);
        court.tell("begin 1 2").due("ofCase 3", 2).due("many 7", 2);
        court.tell("begin 0 3").due("ofCase 3", 1).due("many 7", 2);
        for (int run = 0; run < 8; run++) court.tell("strike " + run);
        court.due("ofCase 3", 1).due("many 7", 2).due("begin 0 3", 1).due("ofCase 3", 1).tell("drop").due("ofCase 3", 1);
    }

    private static void order() {
        Trial.sentence("6: the exception that is named first: begin");
        Trial court = quickCourt(3).tell("begin 0 2");
        court.refusesIndex("begin 3 0", "begin 3 3", "begin 0 -1", "begin -1 -1", "begin 0 3", "begin MAX MIN");
        court.refusesArgument("begin 0 0", "begin 2 1").refusesState("begin 0 1");
    }

    public static void main(String[] args) {
        noneYet();
        goodSmaller();
        noSuchChange();
        middle();
        waitsForFewer();
        fewerInSamples();
        namedAtBad();
        fasterOrSameAtBad();
        slowerAhead();
        fasterOrSameAhead();
        againAndAgain();
        stopsOnTheWay();
        everyOne();
        goesOnWithRun();
        goesOnWithStrike();
        goesOnWithMeasure();
        goesOnWithRule();
        goesOnWithNothingElse();
        thereIsOne();
        drop();
        noneToDrop();
        whatOfCase();
        namedLast();
        order();
        Trial.close("EdgesOfCasesTest");
    }
}
