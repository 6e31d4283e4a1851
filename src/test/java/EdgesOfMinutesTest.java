/** The bounds of section 6 and of the calls budget, many, minutesFor and without. */
public final class EdgesOfMinutesTest {
    private static void atFirst() {
        Trial.sentence("6: a BUDGET of MINUTES, 1000 at first");
        Trial court = new Trial().due("many 4", 1000).due("budget 1", 1001).due("many 4", 1001);
    }

    private static void minutes() {
        Trial.sentence("promise 18: minutes is not 1 to 5000");
        Trial court = new Trial().refusesArgument("budget 0", "budget 5001", "budget -1", "budget MIN", "budget MAX");
        court.due("many 4", 1000).due("budget 1", 1001).due("budget 5000", 5000);
        court.refusesArgument("budget 0", "budget 5001").due("many 4", 5000);
    }

    private static void atTheMost() {
        Trial.sentence("promise 18: 5000 at most");
        new Trial().due("budget 3999", 4999).due("many 4", 4999).due("budget 1", 5000).due("budget 1", 5000);
        new Trial().due("budget 4000", 5000).due("many 4", 5000);
        new Trial().due("budget 4001", 5000).due("many 4", 5000);
        Trial full = new Trial("machine 60 100").due("budget 5000", 5000).due("budget 5000", 5000).due("many 4", 5000);
        full.tell("run 0 0 1").due("many 4", 4940).due("budget 60", 5000);
    }

    private static void runTakesPrice() {
        Trial.sentence("6: each RUN that is told takes the PRICE of its MACHINE");
        Trial court = new Trial("machine 1 100", "machine 60 100").tell("run 0 0 9999").due("many 4", 999);
        court.tell("run 0 1 1").due("many 4", 939).tell("strike 0", "strike 1").due("many 4", 939);
        court.refusesArgument("run 0 1 0").refusesIndex("run 1 1 1").due("many 4", 939);
    }

    private static void fewerThanPrice() {
        Trial.sentence("promise 6: fewer MINUTES are left than its PRICE");
        Trial court = new Trial("machine 60 100", "machine 41 100", "machine 40 100", "machine 1 100");
        for (int i = 0; i < 16; i++) court.tell("run 0 0 100");
        court.due("many 4", 40).refusesState("run 0 0 100", "run 0 1 100").due("run 0 2 100", 100).due("many 4", 0);
        court.refusesState("run 0 3 100", "run 0 2 100").due("many 4", 0);
        court.due("budget 1", 1).refusesState("run 0 2 100").due("run 0 3 100", 100).due("many 4", 0);
    }

    private static void downToNothing() {
        Trial.sentence("6: 0 to 5000: down to 0 from 5000, in 80 RUNS of 60");
        Trial court = new Trial("machine 60 100", "budget 4000");
        for (int i = 0; i < 79; i++) court.tell("run 0 0 100");
        court.due("many 4", 260).due("run 0 0 100", 100).due("many 4", 200).refusesState("run 0 0 100");
        Trial exact = new Trial("machine 50 100");
        for (int i = 0; i < 20; i++) exact.tell("run 0 0 100");
        exact.due("many 4", 0).refusesState("run 0 0 100").due("budget 50", 50).due("run 0 0 100", 100).due("many 4", 0);
    }

    private static void whatOfMany() {
        Trial.sentence("promise 19: what is not 0 to 8");
        Trial court = new Trial();
        int[] due = {0, 1, 0, 0, 1000, 100, 0, 0, 0};
        for (int what = 0; what <= 8; what++) court.due("many " + what, due[what]);
        court.refusesArgument("many -1", "many 9", "many MIN", "many MAX");
    }

    private static void manyOfAll() {
        Trial.sentence("promise 19: everything full");
        Trial court = new Trial("machine 1 100", "machine 1 100", "machine 1 100", "machine 1 100", "changes 39", "rule 2 200");
        for (int change = 0; change < 40; change++) {
            court.tell("run " + change + " 0 " + (10 + change), "run " + change + " " + change % 4 + " " + (10 + change));
        }
        for (int change = 1; change < 40; change++) court.due("begin " + (change - 1) + " " + change, -1);
        court.tell("budget 5000");
        int[] due = {4, 40, 80, 80, 5000, 100, 0, 39, 0};
        for (int what = 0; what <= 8; what++) court.due("many " + what, due[what]);
        for (int change = 1; change < 40; change++) court.tell("excuse " + change + " " + (change < 23 ? 1 : change < 24 ? 62 : 1));
        court.due("many 5", 0).due("move", 39).due("many 6", 39);
        for (int machine = 0; machine < 4; machine++) court.tell("measure " + machine + " 200");
        court.due("many 3", 0).due("many 8", 4).due("many 7", 39);
    }

    private static void namedAndNamedAgain() {
        Trial.sentence("promise 19: CHANGES that were NAMED");
        Trial court = new Trial("machine 1 100", "changes 2", "rule 2 200").runs(0, 10, 10).runs(1, 20, 20).runs(2, 30, 30);
        court.tell("begin 0 1").due("many 7", 1).tell("begin 0 1").due("many 7", 1).tell("begin 1 2").due("many 7", 2);
        court.tell("excuse 1 1").due("many 7", 2);
    }

    private static void minutesForNeeds() {
        Trial.sentence("promise 20: the RUNS that its SAMPLE needs to have 6; 0 if it has 6");
        Trial court = new Trial("machine 60 100", "budget 5000");
        for (int runs = 0; runs < 6; runs++) court.due("minutesFor 0", (6 - runs) * 60).tell("run 0 0 100");
        court.due("minutesFor 0", 0).tell("run 0 0 100").due("minutesFor 0", 0);
        court.tell("strike 0").due("minutesFor 0", 0).tell("strike 6").due("minutesFor 0", 60);
    }

    private static void minutesForNone() {
        Trial.sentence("promise 20: NONE without such a MACHINE");
        Trial court = new Trial().due("minutesFor 0", -1).tell("machine 7 100").due("minutesFor 0", 42);
        court.tell("measure 0 111").due("minutesFor 0", -1).tell("machine 9 100").due("minutesFor 0", 54);
        court.tell("measure 1 50").due("minutesFor 0", -1);
        court.tell("measure 0 111", "measure 0 111").due("minutesFor 0", 42);
    }

    private static void minutesForLeast() {
        Trial.sentence("promise 20: at the least, all of these on one MACHINE that is not ASIDE");
        Trial court = new Trial("machine 60 100", "machine 1 100", "machine 2 100", "machine 2 100").due("minutesFor 0", 6);
        court.tell("measure 1 200").due("minutesFor 0", 12).tell("measure 2 200").due("minutesFor 0", 12);
        court.tell("measure 3 200").due("minutesFor 0", 360).tell("run 0 0 1").due("minutesFor 0", 300);
        court.tell("measure 0 200").due("minutesFor 0", -1);
    }

    private static void minutesForWhenFull() {
        Trial.sentence("promise 20: how many MINUTES the RUNS would take, though none are left, or there were 80");
        Trial court = new Trial("machine 50 100", "changes 1");
        for (int i = 0; i < 20; i++) court.tell("run 0 0 100");
        court.due("many 4", 0).due("minutesFor 0", 0).due("minutesFor 1", 300);
        Trial full = new Trial("machine 2 100", "changes 1");
        for (int i = 0; i < 80; i++) full.tell("run 0 0 100");
        full.due("minutesFor 0", 0).due("minutesFor 1", 12);
    }

    private static void noSuchChange() {
        Trial.sentence("promise 20: there is no such CHANGE");
        Trial court = new Trial("machine 1 100").due("minutesFor 0", 6);
        court.refusesIndex("minutesFor 1", "minutesFor -1", "minutesFor MIN", "minutesFor MAX");
        court.tell("changes 39").due("minutesFor 39", 6).refusesIndex("minutesFor 40");
    }

    private static void noSuchMachine() {
        Trial.sentence("promise 22: there is no such MACHINE");
        Trial court = new Trial().refusesIndex("without 0", "without -1").tell("machine 1 100").due("without 0", 0);
        court.refusesIndex("without 1", "without -1", "without MIN", "without MAX");
        court.tell("machine 1 100", "machine 1 100", "machine 1 100").due("without 3", 0).refusesIndex("without 4");
    }

    private static void withoutFewer() {
        Trial.sentence("promise 22: how many CHANGES would have fewer RUNS in their SAMPLES");
        Trial court = new Trial("machine 1 100", "machine 1 100", "changes 1").due("without 0", 0);
        court.tell("run 0 1 10").due("without 0", 0).due("without 1", 1);
        // Five others: the sample of six would lose one. Six others: they come back.
        court.runs(0, 1, 2, 3, 4, 5).due("without 1", 1).runs(0, 6).due("without 1", 0).due("without 0", 1);
        court.tell("strike 1").due("without 1", 1).tell("strike 0").due("without 1", 0);
        court.tell("run 1 1 10").due("without 1", 1).tell("run 1 0 10").due("without 1", 1).due("without 0", 2);
    }

    private static void withoutOneAside() {
        Trial.sentence("promise 22: if it was ASIDE: when it is ASIDE already");
        Trial court = new Trial("machine 1 100", "machine 1 100", "run 0 0 10", "run 0 1 10").due("without 0", 1);
        court.tell("measure 0 200").due("without 0", 0).due("without 1", 1);
        court.tell("measure 1 200").due("without 0", 0).due("without 1", 0);
    }

    private static void withoutWhenFull() {
        Trial.sentence("promise 22: of all 40 CHANGES");
        Trial court = new Trial("machine 1 100", "machine 1 100", "changes 39");
        for (int change = 0; change < 40; change++) court.tell("run " + change + " 0 10", "run " + change + " " + change % 2 + " 10");
        court.due("without 0", 40).due("without 1", 20);
    }

    private static void asking() {
        Trial.sentence("what would be (nothing is changed): minutesFor, without, digest");
        Trial court = new Trial("machine 1 100", "machine 2 120", "changes 3", "run 0 0 10", "run 1 1 20", "run 1 0 30");
        court.tell("measure 1 150", "begin 0 3", "strike 1", "budget 7").asksChangeNothing();
        new Trial().asksChangeNothing();
    }

    public static void main(String[] args) {
        atFirst();
        minutes();
        atTheMost();
        runTakesPrice();
        fewerThanPrice();
        downToNothing();
        whatOfMany();
        manyOfAll();
        namedAndNamedAgain();
        minutesForNeeds();
        minutesForNone();
        minutesForLeast();
        minutesForWhenFull();
        noSuchChange();
        noSuchMachine();
        withoutFewer();
        withoutOneAside();
        withoutWhenFull();
        asking();
        Trial.close("EdgesOfMinutesTest");
    }
}
