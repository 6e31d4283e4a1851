/** The bounds of section 3 and of the calls verdict, doubt, rule and verdictWith. */
public final class EdgesOfVerdictsTest {
    private static Trial courtWith(int changes) {
        Trial court = new Trial("machine 1 100");
        return changes > 1 ? court.tell("changes " + (changes - 1)) : court;
    }

    private static Trial courtOf(int[] timesOf0, int[] timesOf1) {
        return courtWith(2).runs(0, timesOf0).runs(1, timesOf1);
    }

    private static int[] times(int many, int time) {
        int[] times = new int[many];
        java.util.Arrays.fill(times, time);
        return times;
    }

    /** SCORE, HIGH, LOW, ALL. */
    private static void ranks(Trial court, String pair, int score, int high, int low, int all) {
        court.due("verdict " + pair + " 1", score).due("verdict " + pair + " 2", high);
        court.due("verdict " + pair + " 3", low).due("verdict " + pair + " 4", all);
    }

    private static void emptySamples() {
        Trial.sentence("3 and promise 11: with a SAMPLE without RUNS there is one way");
        Trial court = courtWith(3).runs(1, 10).runs(2, 10, 20, 30, 40, 50, 60);
        for (String pair : new String[] {"0 0", "0 1", "1 0", "0 2", "2 0"}) {
            ranks(court, pair, 0, 1, 1, 1);
            court.due("verdict " + pair + " 0", 0).due("doubt " + pair, 1.0);
        }
        Trial lost = courtOf(new int[] {10, 20}, new int[] {30, 40}).tell("measure 0 200");
        ranks(lost, "0 1", 0, 1, 1, 1);
        lost.due("doubt 0 1", 1.0).due("verdict 0 1 0", 0);
        new Trial().due("doubt 0 0", 1.0).due("verdict 0 0 0", 0).due("verdict 0 0 4", 1);
    }

    private static void score() {
        Trial.sentence("3: 2, if that of a is WORTH less, 1, if as much, 0 otherwise");
        ranks(courtOf(new int[] {5}, new int[] {6}), "0 1", 2, 1, 2, 2);
        ranks(courtOf(new int[] {5}, new int[] {5}), "0 1", 1, 2, 2, 2);
        ranks(courtOf(new int[] {6}, new int[] {5}), "0 1", 0, 2, 1, 2);
        // By WORTH, not by TIME: 100 at 100 is as much as 110 at 110.
        Trial court = courtWith(2).tell("machine 1 110", "run 0 0 100", "run 1 1 110");
        ranks(court, "0 1", 1, 2, 2, 2);
    }

    private static void oneByOne() {
        Trial.sentence("3: one by one, also if they are the same");
        ranks(courtOf(times(6, 10), times(6, 10)), "0 1", 36, 924, 924, 924);
        ranks(courtOf(times(1, 10), times(6, 10)), "0 1", 6, 7, 7, 7);
        ranks(courtOf(times(6, 10), times(1, 10)), "0 1", 6, 7, 7, 7);
        ranks(courtOf(times(2, 10), times(2, 20)), "0 1", 8, 1, 6, 6);
        ranks(courtOf(new int[] {10, 20}, new int[] {10, 20}), "0 1", 4, 5, 5, 6);
    }

    private static void greatOrGreater() {
        Trial.sentence("3: as great, or greater, is HIGH; as small, or smaller, is LOW");
        ranks(courtOf(times(6, 10), times(6, 20)), "0 1", 72, 1, 924, 924);
        ranks(courtOf(times(6, 20), times(6, 10)), "0 1", 0, 924, 1, 924);
        ranks(courtOf(new int[] {10, 20, 40}, new int[] {30, 50}), "0 1", 10, 2, 9, 10);
        ranks(courtOf(new int[] {20, 40, 50}, new int[] {10, 30}), "0 1", 2, 9, 2, 10);
    }

    private static void eachTwice() {
        Trial.sentence("3: each twice, if a is b");
        Trial court = courtWith(1).runs(0, 10);
        ranks(court, "0 0", 1, 2, 2, 2);
        court.runs(0, 20);
        ranks(court, "0 0", 4, 5, 5, 6);
        court.runs(0, 20, 20, 20, 20);
        court.due("verdict 0 0 1", 36).due("verdict 0 0 4", 924).due("verdict 0 0 0", 3);
        court.runs(0, 20).due("verdict 0 0 4", 924).due("verdict 0 0 2", 924);
    }

    private static void atMostSix() {
        Trial.sentence("3: SAMPLES of 6, however many RUNS there are");
        Trial court = courtWith(2);
        for (int i = 0; i < 40; i++) court.runs(0, i < 34 ? 90 : 10).runs(1, i < 34 ? 5 : 20);
        ranks(court, "0 1", 72, 1, 924, 924);
        court.due("verdict 0 1 0", 1).due("verdict 1 0 0", 2).due("doubt 0 1", 1.0 / 924);
    }

    private static void enough() {
        Trial.sentence("3: 0 OPEN, if one of both SAMPLES has fewer RUNS than ENOUGH (2 to 6)");
        for (int enough = 2; enough <= 6; enough++) {
            Trial court = courtOf(times(enough, 10), times(enough - 1, 20)).tell("rule " + enough + " 200");
            court.due("verdict 0 1 0", 0).due("verdict 1 0 0", 0);
            court.runs(1, 20).due("verdict 0 1 0", 1).due("verdict 1 0 0", 2);
        }
        Trial most = courtOf(times(6, 10), times(1, 20)).tell("rule 2 200");
        most.due("verdict 0 1 0", 0).due("verdict 1 0 0", 0);
        Trial struck = courtOf(times(3, 10), times(3, 20)).due("verdict 0 1 0", 1);
        struck.tell("strike 0").due("verdict 0 1 0", 0).due("verdict 1 0 0", 0);
    }

    private static void enoughAtFirst() {
        Trial.sentence("3: ENOUGH 3, at first");
        Trial court = courtOf(times(2, 10), times(3, 20)).due("verdict 0 1 0", 0).due("verdict 1 0 0", 0);
        court.runs(0, 10).due("verdict 0 1 0", 1).due("verdict 1 0 0", 2);
    }

    private static void levelNotAbove() {
        Trial.sentence("3: 1 SLOWER, if HIGH * 1000 is not above LEVEL * ALL");
        Trial twenty = courtOf(times(3, 10), times(3, 20));
        twenty.tell("rule 3 50").due("verdict 0 1 0", 1).tell("rule 3 49").due("verdict 0 1 0", 4);
        Trial ten = courtOf(times(3, 10), times(2, 20));
        ten.tell("rule 2 100").due("verdict 0 1 0", 1).tell("rule 2 99").due("verdict 0 1 0", 4);
        Trial six = courtOf(times(2, 10), times(2, 20));
        six.tell("rule 2 167").due("verdict 0 1 0", 1).tell("rule 2 166").due("verdict 0 1 0", 4);
        Trial two = courtOf(new int[] {10, 20, 40}, new int[] {30, 50});
        two.tell("rule 2 200").due("verdict 0 1 0", 1).tell("rule 2 199").due("verdict 0 1 0", 4);
    }

    private static void lowNotAbove() {
        Trial.sentence("3: otherwise 2 FASTER, if LOW * 1000 is not");
        Trial twenty = courtOf(times(3, 20), times(3, 10));
        twenty.tell("rule 3 50").due("verdict 0 1 0", 2).tell("rule 3 49").due("verdict 0 1 0", 4);
        Trial ten = courtOf(times(2, 20), times(3, 10));
        ten.tell("rule 2 100").due("verdict 0 1 0", 2).tell("rule 2 99").due("verdict 0 1 0", 4);
        Trial two = courtOf(new int[] {20, 40, 50}, new int[] {10, 30});
        two.tell("rule 2 200").due("verdict 0 1 0", 2).tell("rule 2 199").due("verdict 0 1 0", 4);
    }

    private static void justAbove() {
        Trial.sentence("3: HIGH * 1000 against LEVEL * ALL: 61000 is above 66 * 924, which is 60984");
        Trial court = courtOf(new int[] {1, 2, 3, 4, 7, 12}, new int[] {5, 6, 8, 9, 10, 11}).tell("rule 6 66");
        ranks(court, "0 1", 56, 61, 881, 924);
        court.due("verdict 0 1 0", 3).due("verdict 1 0 0", 3);
        court.tell("rule 6 67").due("verdict 0 1 0", 1).due("verdict 1 0 0", 2);
    }

    private static void leastAndGreatestLevel() {
        Trial.sentence("3: LEVEL 1 to 200; 50, at first");
        Trial apart = courtOf(times(6, 10), times(6, 20)).due("verdict 0 1 0", 1);
        apart.due("rule 6 1", 50).due("verdict 0 1 0", 3).due("verdict 1 0 0", 3);
        apart.due("rule 6 2", 1).due("verdict 0 1 0", 1).due("verdict 1 0 0", 2);
        // At first: 1 of 20 ways is not above the LEVEL, 4 of 56 are.
        courtOf(times(3, 10), times(3, 20)).due("verdict 0 1 0", 1);
        Trial near = courtOf(new int[] {10, 10, 10, 10, 30}, new int[] {20, 20, 20}).due("verdict 0 1 0", 4);
        ranks(near, "0 1", 24, 4, 53, 56);
        near.tell("rule 3 71").due("verdict 0 1 0", 4).tell("rule 3 72").due("verdict 0 1 0", 1);
    }

    private static void same() {
        Trial.sentence("3: otherwise 3 SAME, if both SAMPLES have 6 RUNS; otherwise 4 UNSURE");
        Trial court = courtOf(times(5, 10), times(5, 10)).due("verdict 0 1 0", 4).due("verdict 0 0 0", 4);
        court.runs(0, 10).due("verdict 0 1 0", 4).due("verdict 1 0 0", 4).due("verdict 0 0 0", 3);
        court.runs(1, 10).due("verdict 0 1 0", 3).due("verdict 1 0 0", 3);
        court.runs(0, 10).due("verdict 0 1 0", 3);
        court.tell("strike 0").due("verdict 0 1 0", 3).tell("strike 1").due("verdict 0 1 0", 4);
        court.runs(0, 10).due("verdict 0 1 0", 3).tell("strike 5").due("verdict 0 1 0", 4);
    }

    private static void noSuchChange() {
        Trial.sentence("promises 10, 11 and 21: there is no such CHANGE");
        Trial court = courtWith(2).due("verdict 1 1 0", 0).due("doubt 1 1", 1.0).due("verdictWith 1 1 1", 0);
        for (String bad : new String[] {"2", "-1", "MIN", "MAX"}) {
            court.refusesIndex("verdict " + bad + " 0 0", "verdict 0 " + bad + " 0", "doubt " + bad + " 0", "doubt 0 " + bad);
            court.refusesIndex("verdictWith " + bad + " 0 1", "verdictWith 0 " + bad + " 1");
        }
        court.tell("changes 38").due("verdict 39 39 0", 0).due("doubt 39 0", 1.0).due("verdictWith 0 39 1", 0);
        court.refusesIndex("verdict 40 0 0", "verdict 0 40 0", "doubt 40 0", "doubt 0 40", "verdictWith 40 0 1", "verdictWith 0 40 1");
    }

    private static void what() {
        Trial.sentence("promise 10: what is not 0 to 4");
        Trial court = courtOf(times(3, 10), times(3, 20)).due("verdict 0 1 0", 1).due("verdict 0 1 4", 20);
        court.refusesArgument("verdict 0 1 -1", "verdict 0 1 5", "verdict 0 1 MIN", "verdict 0 1 MAX");
    }

    private static void notCut() {
        Trial.sentence("promise 11: HIGH / ALL, not cut");
        courtOf(new int[] {10}, new int[] {20, 30}).due("doubt 0 1", 1.0 / 3).due("doubt 1 0", 1.0);
        courtOf(new int[] {20}, new int[] {10, 30}).due("doubt 0 1", 2.0 / 3);
        courtOf(times(6, 10), times(6, 20)).due("doubt 0 1", 1.0 / 924).due("doubt 1 0", 1.0);
        courtOf(times(6, 10), times(5, 20)).due("doubt 0 1", 1.0 / 462);
        courtOf(times(1, 10), times(1, 10)).due("doubt 0 1", 1.0).due("doubt 0 0", 1.0);
    }

    private static void ruleEnough() {
        Trial.sentence("promise 12: enough is not 2 to 6");
        Trial court = courtOf(times(2, 10), times(2, 20));
        court.refusesArgument("rule 1 200", "rule 7 200", "rule 0 200", "rule -2 200", "rule MIN 200", "rule MAX 200");
        court.due("rule 6 200", 50).due("rule 2 200", 200).due("verdict 0 1 0", 1);
        court.refusesArgument("rule 1 50", "rule 7 50").due("verdict 0 1 0", 1);
    }

    private static void ruleLevel() {
        Trial.sentence("promise 12: level is not 1 to 200; returns LEVEL before");
        Trial court = courtOf(times(3, 10), times(3, 20));
        court.refusesArgument("rule 3 0", "rule 3 201", "rule 3 -1", "rule 3 MIN", "rule 3 MAX", "rule 1 0", "rule 7 201");
        court.due("rule 3 1", 50).due("rule 3 200", 1);
        court.refusesArgument("rule 3 0", "rule 3 201").due("rule 3 200", 200).due("rule 2 7", 200).due("rule 6 8", 7);
    }

    private static void withWorth() {
        Trial.sentence("promise 21: worth is not 1 to 20000");
        Trial court = courtOf(times(6, 10), times(6, 10));
        court.due("verdictWith 0 1 1", 3).due("verdictWith 0 1 20000", 3);
        court.refusesArgument("verdictWith 0 1 0", "verdictWith 0 1 20001", "verdictWith 0 1 -1");
        court.refusesArgument("verdictWith 0 1 MIN", "verdictWith 0 1 MAX");
        Trial greatest = new Trial("machine 1 50", "changes 1", "rule 2 200").runs(0, 9999, 9999, 9999).runs(1, 9999);
        greatest.due("ofChange 0 4", 19998).due("verdictWith 0 1 20000", 4).runs(1, 9999);
        greatest.due("verdictWith 0 1 19998", 4);
        Trial least = courtOf(times(2, 10), times(1, 1)).tell("rule 2 200");
        least.due("verdictWith 0 1 1", 2).due("verdictWith 0 1 10", 4);
    }

    private static void withOneMore() {
        Trial.sentence("promise 21: if b had one RUN more");
        for (int enough = 2; enough <= 6; enough++) {
            Trial court = courtOf(times(enough, 10), times(enough - 2, 20)).tell("rule " + enough + " 200");
            court.due("verdictWith 0 1 20", 0).runs(1, 20).due("verdict 0 1 0", 0).due("verdictWith 0 1 20", 1);
            court.tell("strike 0").due("verdictWith 0 1 20", 0);
        }
        Trial none = courtWith(2).due("verdictWith 0 1 1", 0).due("verdictWith 0 0 1", 0);
        none.runs(0, 10, 10, 10).due("verdictWith 0 1 20", 0);
        new Trial().due("verdictWith 0 0 1", 0).due("verdictWith 0 0 20000", 0);
    }

    private static void withTheLastOne() {
        Trial.sentence("promise 21: the last one: of 6 the first one drops out");
        // With one WORTH of 1, HIGH is 7 of 924: above LEVEL 7. Without any, it is 1.
        Trial court = courtOf(times(6, 50), new int[] {1, 99, 99, 99, 99, 99}).tell("rule 3 7");
        court.due("verdict 0 1 2", 7).due("verdict 0 1 0", 3);
        court.due("verdictWith 0 1 99", 1).due("verdictWith 0 1 1", 3).due("verdict 0 1 0", 3);
        Trial five = courtOf(times(6, 50), new int[] {1, 99, 99, 99, 99}).tell("rule 3 7").due("verdictWith 0 1 99", 3);
        five.runs(1, 99, 99).due("verdictWith 0 1 1", 3).due("verdict 0 1 0", 1).due("verdictWith 0 1 99", 1);
    }

    private static void withOfTheSame() {
        Trial.sentence("promise 21: the SAMPLE of a as it is, also if a is b");
        Trial court = courtWith(1).runs(0, 10, 10).tell("rule 3 200").due("verdictWith 0 0 20", 0);
        court.tell("rule 2 200").due("verdictWith 0 0 20", 4);
        court.runs(0, 10, 10, 10).due("verdictWith 0 0 10", 4).runs(0, 10).due("verdictWith 0 0 10", 3);
        Trial six = courtWith(1).runs(0, 1, 1, 1, 99, 99, 99).due("verdictWith 0 0 99", 3).due("verdict 0 0 0", 3);
        six.asksChangeNothing();
    }

    private static void withWhenFull() {
        Trial.sentence("promise 21: one RUN more, though there were 80, or its MACHINES are ASIDE");
        Trial court = courtWith(2).runs(0, 10, 10, 10);
        for (int i = 0; i < 75; i++) court.runs(0, 10);
        court.runs(1, 20, 20).due("many 2", 80).due("verdict 0 1 0", 0).due("verdictWith 0 1 20", 1);
        court.tell("measure 0 200").due("verdictWith 0 1 20", 0);
        Trial aside = courtWith(2).tell("machine 1 100", "rule 2 50").runs(0, 10, 10);
        for (int i = 0; i < 5; i++) aside.tell("run 1 1 20");
        aside.tell("measure 1 200").due("verdictWith 0 1 20", 0).tell("run 1 0 20").due("verdictWith 0 1 20", 4);
    }

    private static void order() {
        Trial.sentence("6: the exception that is named first: verdict, verdictWith");
        Trial court = courtWith(2);
        court.refusesIndex("verdict 2 0 5", "verdict 0 2 -1", "verdict -1 -1 5");
        court.refusesIndex("verdictWith 2 0 0", "verdictWith 0 2 20001", "verdictWith -1 -1 0");
    }

    private static void asking() {
        Trial.sentence("what would be (nothing is changed): verdict, doubt, verdictWith");
        Trial court = courtWith(4).tell("machine 3 100", "rule 2 200").runs(0, 10, 11, 12).runs(1, 20, 21).runs(2, 9, 10);
        court.tell("begin 0 3").asksChangeNothing();
    }

    public static void main(String[] args) {
        emptySamples();
        score();
        oneByOne();
        greatOrGreater();
        eachTwice();
        atMostSix();
        enough();
        enoughAtFirst();
        levelNotAbove();
        lowNotAbove();
        justAbove();
        leastAndGreatestLevel();
        same();
        noSuchChange();
        what();
        notCut();
        ruleEnough();
        ruleLevel();
        withWorth();
        withOneMore();
        withTheLastOne();
        withOfTheSame();
        withWhenFull();
        order();
        asking();
        Trial.close("EdgesOfVerdictsTest");
    }
}
