/** The bounds of section 5 and of the calls move, excuse and wouldMove. */
public final class EdgesOfBaselineTest {
    /** Two runs are enough, and two of two are apart at LEVEL 200. */
    private static Trial quickCourt(int... times) {
        Trial court = new Trial("machine 1 100", "rule 2 200");
        if (times.length > 1) court.tell("changes " + (times.length - 1));
        for (int change = 0; change < times.length; change++) court.runs(change, times[change], times[change]);
        return court;
    }

    private static void stays(Trial court, int baseline) {
        court.due("wouldMove", baseline).due("move", baseline).due("many 6", baseline);
    }

    private static void atFirst() {
        Trial.sentence("5: the BASELINE is a CHANGE, 0 at first");
        Trial court = new Trial().due("many 6", 0);
        stays(court, 0);
        stays(new Trial("changes 39"), 0);
    }

    private static void noNext() {
        Trial.sentence("5: as long as there is a next CHANGE");
        Trial court = quickCourt(30, 20).due("wouldMove", 1).due("move", 1).due("many 5", 110);
        stays(court, 1);
        court.due("many 5", 110).tell("changes 1").runs(2, 10, 10).due("wouldMove", 2).due("move", 2).due("many 5", 120);
        stays(court, 2);
    }

    private static void staysAtOpen() {
        Trial.sentence("5: otherwise it stays there: OPEN");
        Trial court = quickCourt(30).tell("changes 2").runs(2, 10, 10).runs(1, 20);
        court.due("verdict 0 1 0", 0);
        stays(court, 0);
        court.due("many 5", 100).runs(1, 20).due("wouldMove", 2).due("move", 2).due("many 5", 120);
    }

    private static void staysAtUnsure() {
        Trial.sentence("5: otherwise it stays there: UNSURE");
        Trial court = quickCourt(30, 30).due("verdict 0 1 0", 4);
        stays(court, 0);
        court.runs(0, 30, 30, 30, 30).runs(1, 30, 30, 30).due("verdict 0 1 0", 4);
        stays(court, 0);
        court.due("many 5", 100).runs(1, 30).due("verdict 0 1 0", 3);
        stays(court, 1);
        court.due("many 5", 100);
    }

    private static void staysAtSlower() {
        Trial.sentence("5: otherwise it stays there: SLOWER");
        Trial court = quickCourt(20, 30, 10).due("verdict 0 1 0", 1);
        stays(court, 0);
        court.due("many 5", 100);
    }

    private static void allTheWay() {
        Trial.sentence("5: from it on: over all 40 CHANGES, FASTER each");
        int[] times = new int[40];
        for (int change = 0; change < 40; change++) times[change] = 90 - change;
        Trial court = quickCourt(times).due("many 2", 80).due("wouldMove", 39).due("many 6", 0);
        court.due("many 5", 100).due("move", 39).due("many 5", 490).due("many 6", 39);
        stays(court, 39);
        court.due("many 5", 490);
    }

    private static void overSame() {
        Trial.sentence("5: SAME: it is the BASELINE, and the CREDIT stays");
        Trial court = new Trial("machine 1 100", "changes 39");
        for (int change = 0; change < 13; change++) court.runs(change, 10, 10, 10, 10, 10, 10);
        court.due("wouldMove", 12).due("move", 12).due("many 5", 100);
    }

    private static void overExcused() {
        Trial.sentence("5: if that is EXCUSED, it is the BASELINE: though SLOWER, though OPEN");
        Trial slower = quickCourt(10, 20).tell("begin 0 1", "excuse 1 1").due("verdict 0 1 0", 1);
        slower.due("wouldMove", 1).due("move", 1).due("many 5", 99);
        Trial open = quickCourt(10, 20).tell("begin 0 1", "excuse 1 1", "strike 2", "strike 3").due("verdict 0 1 0", 0);
        open.due("wouldMove", 1).due("move", 1).due("many 5", 99);
    }

    private static void fromTheExcusedOne() {
        Trial.sentence("5: the VERDICT of the BASELINE and that: the BASELINE is the EXCUSED one then");
        Trial court = quickCourt(10, 50, 40, 45).tell("begin 0 1", "excuse 1 1");
        court.due("verdict 0 2 0", 1).due("verdict 1 2 0", 2).due("wouldMove", 2).due("move", 2).due("many 5", 109);
        stays(court, 2);
    }

    private static void namedOnly() {
        Trial.sentence("5: NAMED, but not EXCUSED: it stays there");
        Trial court = quickCourt(10, 20).tell("begin 0 1").due("ofChange 1 5", 2);
        stays(court, 0);
    }

    private static void creditOfFaster() {
        Trial.sentence("5: each step to a CHANGE that is FASTER, and not EXCUSED, makes the CREDIT 10 more");
        Trial court = quickCourt(40, 30, 20).due("move", 2).due("many 5", 120).due("move", 2).due("many 5", 120);
        Trial excused = quickCourt(10, 20).tell("begin 0 1", "excuse 1 1").runs(1, 5, 5, 5, 5, 5, 5);
        excused.due("verdict 0 1 0", 2).due("move", 1).due("many 5", 99);
        court.due("wouldMove", 2).due("many 5", 120);
    }

    private static void price() {
        Trial.sentence("5: for a PRICE, 1 to 100");
        Trial court = quickCourt(10, 20, 30).tell("begin 0 1", "begin 1 2");
        court.refusesArgument("excuse 1 0", "excuse 1 101", "excuse 1 -1", "excuse 1 MIN", "excuse 1 MAX");
        court.due("excuse 1 1", 99).due("many 5", 99);
        quickCourt(10, 20).tell("begin 0 1").due("excuse 1 100", 0).due("many 5", 0).due("ofChange 1 5", 1);
    }

    private static void credit() {
        Trial.sentence("5: out of the CREDIT (100 at first): price is more than the CREDIT");
        Trial court = quickCourt(10, 20, 30, 40).due("many 5", 100).tell("begin 0 1", "begin 1 2", "begin 2 3");
        court.due("excuse 1 1", 99).refusesState("excuse 2 100").due("ofChange 2 5", 2);
        court.due("excuse 2 99", 0).refusesState("excuse 3 1", "excuse 3 100").due("ofChange 3 5", 2).due("many 5", 0);
    }

    private static void creditAboveHundred() {
        Trial.sentence("5: the CREDIT above 100: the PRICE is 100 at the most");
        Trial court = quickCourt(50, 40, 90).tell("begin 1 2").due("move", 1).due("many 5", 110);
        court.refusesArgument("excuse 2 101", "excuse 2 110").due("excuse 2 100", 10).due("move", 2).due("many 5", 10);
    }

    private static void notNamed() {
        Trial.sentence("promise 17: it was not NAMED");
        Trial court = quickCourt(10, 20, 10).refusesState("excuse 0 1", "excuse 1 1", "excuse 2 100");
        court.tell("begin 0 1").refusesState("excuse 0 1", "excuse 2 1").due("excuse 1 1", 99);
        Trial dropped = quickCourt(10, 20).tell("strike 0", "begin 0 1", "drop").refusesState("excuse 1 1");
        dropped.due("many 7", 0);
    }

    private static void namedEver() {
        Trial.sentence("5: a CHANGE that was NAMED ever can be EXCUSED");
        Trial court = quickCourt(10, 20, 30).tell("begin 0 1", "begin 1 2", "strike 2", "strike 3");
        court.due("ofCase 3", 2).due("ofChange 1 1", 0).due("ofChange 1 5", 2).due("excuse 1 5", 95).due("excuse 2 5", 90);
    }

    private static void excusedAlready() {
        Trial.sentence("promise 17: it is EXCUSED");
        Trial court = quickCourt(10, 20).tell("begin 0 1").due("excuse 1 1", 99).refusesState("excuse 1 1", "excuse 1 99");
        court.tell("begin 0 1").due("many 7", 1).due("ofChange 1 5", 1).refusesState("excuse 1 1");
    }

    private static void noSuchChange() {
        Trial.sentence("promise 17: there is no such CHANGE");
        new Trial().refusesIndex("excuse 1 1", "excuse -1 1").refusesState("excuse 0 1");
        Trial court = quickCourt(10, 20).tell("begin 0 1");
        court.refusesIndex("excuse 2 1", "excuse -1 1", "excuse MIN 1", "excuse MAX 1");
        court.tell("changes 38").refusesState("excuse 39 1").refusesIndex("excuse 40 1");
    }

    private static void order() {
        Trial.sentence("6: the exception that is named first: excuse");
        Trial court = quickCourt(10, 20).refusesIndex("excuse 2 0", "excuse -1 101").refusesArgument("excuse 1 0", "excuse 0 101");
        court.tell("begin 0 1", "excuse 1 100").refusesArgument("excuse 1 0", "excuse 1 101").refusesState("excuse 1 100");
    }

    private static void wouldMove() {
        Trial.sentence("promise 23: where the BASELINE would be; nothing is changed");
        Trial court = quickCourt(40, 30, 20, 90).tell("begin 2 3", "excuse 3 7").asksChangeNothing();
        court.due("wouldMove", 3).due("many 6", 0).due("many 5", 93).due("move", 3).due("many 5", 113).due("wouldMove", 3);
    }

    private static void goesWithTheSamples() {
        Trial.sentence("5: the BASELINE stays behind a MOVE, whatever becomes of the RUNS");
        Trial court = quickCourt(40, 30, 20).due("move", 2).tell("measure 0 200").due("many 6", 2);
        stays(court, 2);
        Trial aside = quickCourt(40, 30).tell("measure 0 200");
        stays(aside, 0);
    }

    public static void main(String[] args) {
        atFirst();
        noNext();
        staysAtOpen();
        staysAtUnsure();
        staysAtSlower();
        allTheWay();
        overSame();
        overExcused();
        fromTheExcusedOne();
        namedOnly();
        creditOfFaster();
        price();
        credit();
        creditAboveHundred();
        notNamed();
        namedEver();
        excusedAlready();
        noSuchChange();
        order();
        wouldMove();
        goesWithTheSamples();
        Trial.close("EdgesOfBaselineTest");
    }
}
