/** The bounds of section 1 and of the calls machine, measure and ofMachine. */
public final class EdgesOfMachinesTest {
    private static void atMostFour() {
        Trial.sentence("1: at most 4 MACHINES, numbered from 0");
        Trial court = new Trial();
        court.due("machine 1 100", 0).due("machine 2 100", 1).due("machine 3 100", 2).due("machine 4 100", 3);
        court.due("many 0", 4).due("ofMachine 0 0", 1).due("ofMachine 3 0", 4);
        court.refusesState("machine 1 100", "machine 60 200");
    }

    private static void noneYet() {
        Trial.sentence("1: MACHINES, before there is any");
        Trial court = new Trial();
        court.due("many 0", 0).due("many 8", 0).due("minutesFor 0", -1);
        court.refusesIndex("measure 0 100", "ofMachine 0 0", "without 0", "run 0 0 100");
        court.refusesIndex("measure -1 100", "ofMachine -1 0", "without -1", "run 0 -1 100");
    }

    private static void noSuchMachine() {
        Trial.sentence("promises 3 and 4: there is no such MACHINE");
        Trial court = new Trial("machine 1 100", "machine 1 100");
        court.due("measure 1 100", "false").due("ofMachine 1 4", 2);
        court.refusesIndex("measure 2 100", "measure -1 100", "measure MIN 100", "measure MAX 100");
        court.refusesIndex("ofMachine 2 0", "ofMachine -1 0", "ofMachine MIN 0", "ofMachine MAX 0");
        court.tell("machine 1 100", "machine 1 100").due("measure 3 100", "false").due("ofMachine 3 4", 2);
        court.refusesIndex("measure 4 100", "ofMachine 4 0");
    }

    private static void price() {
        Trial.sentence("1: a PRICE, 1 to 60");
        Trial court = new Trial();
        court.refusesArgument("machine 0 100", "machine 61 100", "machine -1 100", "machine MIN 100", "machine MAX 100");
        court.due("machine 1 100", 0).due("machine 60 100", 1);
        court.due("ofMachine 0 0", 1).due("ofMachine 1 0", 60);
        court.refusesArgument("machine 0 100", "machine 61 100");
    }

    private static void firstMeasure() {
        Trial.sentence("1: MEASURES, 50 to 200: the first one, in machine");
        Trial court = new Trial();
        court.refusesArgument("machine 1 49", "machine 1 201", "machine 1 0", "machine 1 -50", "machine 1 MIN", "machine 1 MAX");
        court.due("machine 1 50", 0).due("machine 1 200", 1);
        court.due("ofMachine 0 1", 50).due("ofMachine 1 1", 200);
    }

    private static void nextMeasure() {
        Trial.sentence("1: MEASURES, 50 to 200: those behind, in measure");
        Trial court = new Trial("machine 1 100");
        court.refusesArgument("measure 0 49", "measure 0 201", "measure 0 0", "measure 0 -50", "measure 0 MIN", "measure 0 MAX");
        court.due("ofMachine 0 4", 1);
        court.due("measure 0 50", "true").due("ofMachine 0 1", 50);
        court.due("measure 0 200", "true").due("ofMachine 0 1", 200).due("ofMachine 0 4", 3);
    }

    private static void firstAsItComes() {
        Trial.sentence("1: the first one as it comes");
        Trial court = new Trial("machine 1 50", "machine 1 200", "machine 1 100");
        court.due("many 8", 0);
        for (int machine = 0; machine < 3; machine++) {
            court.due("ofMachine " + machine + " 2", 0).due("ofMachine " + machine + " 4", 1);
        }
    }

    private static void fewerThanThree() {
        Trial.sentence("1: of all, if there are fewer");
        new Trial("machine 1 100").due("measure 0 110", "false").due("ofMachine 0 2", 0);
        new Trial("machine 1 100").due("measure 0 111", "true").due("ofMachine 0 2", 1);
        new Trial("machine 1 111").due("measure 0 100", "true").due("ofMachine 0 2", 1);
    }

    private static void lastThree() {
        Trial.sentence("1: of its last three MEASURES");
        Trial greatFirst = new Trial("machine 1 120");
        greatFirst.due("measure 0 100", "true").due("measure 0 100", "true").due("measure 0 100", "false");
        Trial smallFirst = new Trial("machine 1 100");
        smallFirst.due("measure 0 120", "true").due("measure 0 120", "true").due("measure 0 120", "false");
        Trial between = new Trial("machine 1 100");
        between.due("measure 0 100", "false").due("measure 0 100", "false").due("measure 0 150", "true");
        between.due("measure 0 100", "true").due("measure 0 100", "true").due("measure 0 100", "false");
        Trial slowly = new Trial("machine 1 100");
        slowly.due("measure 0 105", "false").due("measure 0 110", "false").due("measure 0 115", "false");
        slowly.due("measure 0 121", "false").due("measure 0 127", "true");
    }

    private static void tenOfHundred() {
        Trial.sentence("1: more than 10 of 100 above the smallest one: greatest * 100 above smallest * 110");
        int[][] justNot = {{100, 110}, {110, 100}, {50, 55}, {60, 66}, {182, 200}, {200, 182}, {181, 199}, {91, 100}};
        int[][] just = {{100, 111}, {111, 100}, {50, 56}, {60, 67}, {181, 200}, {200, 181}, {90, 100}, {54, 60}};
        for (int[] m : justNot) new Trial("machine 1 " + m[0]).due("measure 0 " + m[1], "false").due("many 8", 0);
        for (int[] m : just) new Trial("machine 1 " + m[0]).due("measure 0 " + m[1], "true").due("many 8", 1);
        // The first against the third, the first against the second, the second against the third.
        new Trial("machine 1 100", "measure 0 105").due("measure 0 111", "true");
        new Trial("machine 1 100", "measure 0 105").due("measure 0 110", "false");
        new Trial("machine 1 105", "measure 0 100").due("measure 0 110", "false").due("measure 0 111", "true");
        new Trial("machine 1 105", "measure 0 111").due("measure 0 101", "false").due("measure 0 100", "true");
    }

    private static void aside() {
        Trial.sentence("1: it is ASIDE, as long as it DRIFTS");
        Trial court = new Trial("machine 1 100", "machine 1 100", "run 0 0 100");
        court.tell("measure 0 150").refusesState("run 0 0 100");
        court.due("ofMachine 0 2", 1).due("ofMachine 1 2", 0).due("many 8", 1).due("many 3", 0);
        court.tell("measure 0 150").refusesState("run 0 0 100");
        court.due("measure 0 150", "false").due("ofMachine 0 2", 0).due("many 8", 0).due("many 3", 1);
        court.due("run 0 0 150", 100);
    }

    private static void allAside() {
        Trial.sentence("1: all 4 MACHINES ASIDE");
        Trial court = new Trial("machine 1 100", "machine 1 100", "machine 1 100", "machine 1 100");
        for (int machine = 0; machine < 4; machine++) {
            court.tell("run 0 " + machine + " 100").due("measure " + machine + " 200", "true").due("many 8", machine + 1);
        }
        court.due("many 3", 0).due("minutesFor 0", -1).due("ofChange 0 1", 0);
        court.refusesState("run 0 0 100", "run 0 3 100", "machine 1 100");
    }

    private static void scale() {
        Trial.sentence("1: its SCALE is its last MEASURE");
        Trial court = new Trial("machine 1 100");
        court.due("ofMachine 0 1", 100);
        court.tell("measure 0 105").due("ofMachine 0 1", 105).due("run 0 0 105", 100);
        court.tell("measure 0 200").due("ofMachine 0 1", 200);
    }

    private static void whatOfMachine() {
        Trial.sentence("promise 4: what is not 0 to 4");
        Trial court = new Trial("machine 9 120");
        court.due("ofMachine 0 0", 9).due("ofMachine 0 1", 120).due("ofMachine 0 2", 0);
        court.due("ofMachine 0 3", 0).due("ofMachine 0 4", 1);
        court.refusesArgument("ofMachine 0 -1", "ofMachine 0 5", "ofMachine 0 MIN", "ofMachine 0 MAX");
    }

    private static void runsOnIt() {
        Trial.sentence("promise 4: how many RUNS were on it");
        Trial court = new Trial("machine 1 100", "machine 1 100", "changes 1", "run 0 0 100", "run 1 0 100");
        court.due("ofMachine 0 3", 2).due("ofMachine 1 3", 0);
        court.tell("strike 0", "measure 0 200").due("ofMachine 0 3", 2);
        for (int i = 2; i < 80; i++) court.tell("run 1 1 100");
        court.due("ofMachine 1 3", 78).refusesState("run 0 1 100");
        court.due("ofMachine 1 3", 78);
    }

    private static void order() {
        Trial.sentence("6: the exception that is named first: machine, measure, ofMachine");
        Trial court = new Trial("machine 1 100", "machine 1 100", "machine 1 100", "machine 1 100");
        court.refusesArgument("machine 0 100", "machine 61 100", "machine 1 49", "machine 1 201", "machine 0 49");
        court.refusesIndex("measure 4 49", "measure -1 201", "ofMachine 4 5", "ofMachine -1 -1");
    }

    public static void main(String[] args) {
        atMostFour();
        noneYet();
        noSuchMachine();
        price();
        firstMeasure();
        nextMeasure();
        firstAsItComes();
        fewerThanThree();
        lastThree();
        tenOfHundred();
        aside();
        allAside();
        scale();
        whatOfMachine();
        runsOnIt();
        order();
        Trial.close("EdgesOfMachinesTest");
    }
}
