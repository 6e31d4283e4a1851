import java.math.BigInteger;

/** What goes through all sections: refused calls on an empty and a full court, 512 calls, the checksum. */
public final class EdgesOfTheWholeTest {
    /** 4 machines, 3 of them aside, 40 changes, 80 runs, 5000 minutes, a case that waits, one change excused. */
    private static Trial fullCourt() {
        Trial court = new Trial("machine 1 100", "machine 2 100", "machine 3 100", "machine 60 100", "changes 39", "rule 2 200");
        for (int change = 0; change < 40; change++) {
            int time = change == 5 || change == 7 ? 200 - change : 100 - change;
            court.tell("run " + change + " 0 " + time, "run " + change + " " + change % 3 + " " + time);
        }
        court.tell("begin 4 5", "begin 6 7", "excuse 5 30", "strike 79", "begin 20 39", "measure 1 120", "measure 3 200");
        return court.tell("measure 2 50", "budget 5000");
    }

    private static void fullStands() {
        Trial.sentence("2 to 6: everything full");
        Trial court = fullCourt();
        int[] due = {4, 40, 80, 53, 5000, 70, 0, 2, 3};
        for (int what = 0; what <= 8; what++) court.due("many " + what, due[what]);
        court.due("ofCase 0", 38).due("ofCase 1", 39).due("ofCase 2", 39).due("ofCase 3", 7);
    }

    private static void fullRefusesState() {
        Trial.sentence("6: a method that throws an exception changes nothing: IllegalStateException");
        fullCourt().refusesState("machine 1 100", "machine 60 200", "changes 1", "changes 39", "run 0 0 100", "run 39 3 9999",
                "strike 79", "begin 0 1", "begin 20 39", "excuse 0 1", "excuse 5 1", "excuse 7 71", "excuse 7 100");
    }

    private static void fullRefusesArgument() {
        Trial.sentence("6: a method that throws an exception changes nothing: IllegalArgumentException");
        fullCourt().refusesArgument("machine 0 100", "machine 1 201", "measure 0 49", "measure 3 201", "ofMachine 3 5",
                "changes 0", "changes 40", "run 0 0 0", "run 39 3 10000", "ofRun 79 6", "ofChange 39 6", "verdict 0 39 5",
                "rule 1 50", "rule 3 201", "begin 39 39", "begin 1 0", "ofCase 4", "excuse 5 0", "excuse 7 101", "budget 0",
                "budget 5001", "many 9", "verdictWith 0 39 0", "verdictWith 39 0 20001");
    }

    private static void fullRefusesIndex() {
        Trial.sentence("6: a method that throws an exception changes nothing: IndexOutOfBoundsException");
        fullCourt().refusesIndex("measure 4 100", "ofMachine 4 0", "run 40 0 100", "run 0 4 100", "run -1 -1 100", "strike 80",
                "ofRun 80 0", "ofChange 40 0", "verdict 40 0 0", "verdict 0 40 0", "doubt 40 0", "doubt 0 40", "begin 0 40",
                "begin 40 41", "excuse 40 1", "minutesFor 40", "verdictWith 40 0 1", "verdictWith 0 40 1", "without 4");
    }

    private static void firstNamed() {
        Trial.sentence("6: if several exceptions apply, the one that is named first is thrown");
        fullCourt().refusesIndex("measure 4 49", "ofMachine 4 5", "run 40 4 0", "run 40 0 100", "run 0 4 10000", "ofRun 80 6",
                "ofChange 40 6", "verdict 40 40 5", "begin 40 40", "begin 40 0", "begin -1 -1", "excuse 40 0", "excuse -1 101",
                "verdictWith 40 40 0", "verdictWith 0 -1 20001");
        fullCourt().refusesArgument("machine 0 49", "machine 61 100", "machine 1 201", "changes 0", "changes 40", "changes MAX",
                "run 0 3 0", "run 0 0 10000", "begin 1 1", "begin 39 20", "excuse 0 0", "excuse 5 101");
    }

    private static void emptyRefuses() {
        Trial.sentence("6: a method that throws an exception changes nothing: on a new object");
        Trial court = new Trial();
        court.refusesIndex("measure 0 100", "ofMachine 0 0", "run 0 0 100", "run 1 0 100", "strike 0", "ofRun 0 0", "ofChange 1 0",
                "verdict 0 1 0", "verdict 1 0 0", "doubt 0 1", "doubt 1 0", "begin 0 1", "excuse 1 1", "minutesFor 1",
                "verdictWith 0 1 1", "verdictWith 1 0 1", "without 0");
        court.refusesArgument("machine 0 100", "machine 1 49", "changes 0", "changes 40", "ofChange 0 6", "verdict 0 0 5", "rule 7 50",
                "begin 0 0", "ofCase 4", "excuse 0 0", "budget 0", "many 9", "verdictWith 0 0 0");
        court.refusesState("drop", "excuse 0 1");
        court.due("machine 1 100", 0).due("run 0 0 100", 100);
    }

    private static void askingChangesNothing() {
        Trial.sentence("what would be (nothing is changed), and every other asking call, on a full court");
        fullCourt().asksChangeNothing();
    }

    private static void manyCalls() {
        Trial.sentence("an object is used for at most 512 calls");
        Trial measured = new Trial("machine 1 100");
        for (int i = 0; i < 509; i++) measured.tell("measure 0 " + (100 + i % 2 * 50));
        measured.due("ofMachine 0 4", 510).due("ofMachine 0 1", 100);
        Trial ruled = new Trial();
        for (int i = 1; i <= 511; i++) ruled.tell("rule " + (2 + i % 5) + " " + (1 + i % 200));
        ruled.due("rule 2 1", 1 + 511 % 200);
        Trial begun = new Trial("changes 39");
        for (int i = 0; i < 255; i++) begun.due("begin 0 39", 19).due("drop", 38);
        begun.due("many 7", 0);
    }

    private static void digestIs(Trial court) {
        BigInteger without = court.digestWithoutBound();
        if (without.bitLength() <= 64) throw new AssertionError("this checksum does not wrap around");
        court.due("digest", without.longValue());
    }

    private static void wrapsAround() {
        Trial.sentence("promise 24: the checksum wraps around as a 64-bit integer");
        digestIs(new Trial());
        digestIs(new Trial("machine 1 100", "changes 2", "run 0 0 10", "run 1 0 20", "begin 0 2"));
        digestIs(new Trial("machine 60 200", "machine 1 50", "run 0 1 9999", "run 0 1 9999", "measure 1 200", "strike 1"));
        digestIs(fullCourt());
        digestIs(new Trial("machine 1 100", "changes 1", "rule 2 200").runs(0, 20, 20).runs(1, 10, 10).due("wouldMove", 1));
    }

    private static void digestOfNothing() {
        Trial.sentence("promise 24: without MACHINES, RUNS and a PARENT; NONE is -1");
        BigInteger d = BigInteger.valueOf(5750);
        int[] values = {0, 1, 0, 0, 1000, 100, 0, 0, 0, 0, 0, -1, -1, -1, 0, -1, -1, -1, -1, -1, 0};
        for (int value : values) d = d.multiply(BigInteger.valueOf(31)).add(BigInteger.valueOf(value));
        new Trial().due("digest", d.longValue());
    }

    private static void parents() {
        Trial.sentence("2: the PARENT of a CHANGE is that ahead of it; 0 has none");
        Trial court = new Trial("machine 1 100", "changes 2").runs(0, 10, 20, 30).runs(1, 40, 50, 60).runs(2, 5, 25, 45);
        court.due("verdict 0 1 1", 18).due("verdict 1 2 1", 2).due("verdict 1 0 1", 0).due("verdict 2 1 1", 16);
        digestIs(court);
    }

    private static void eachForItself() {
        Trial.sentence("what it is: an object knows nothing of another one");
        Trial one = new Trial("machine 1 100", "changes 1");
        Trial other = new Trial();
        other.due("many 0", 0).due("many 1", 1);
        one.runs(0, 10, 10, 10).runs(1, 20, 20, 20).tell("begin 0 1", "excuse 1 40", "budget 10", "rule 2 200");
        int[] due = {0, 1, 0, 0, 1000, 100, 0, 0, 0};
        for (int what = 0; what <= 8; what++) other.due("many " + what, due[what]);
        other.due("ofCase 3", -1).due("verdict 0 0 4", 1).due("rule 3 50", 50);
        one.due("verdict 0 1 0", 1).due("verdict 0 1 4", 20).due("ofCase 3", 1).due("many 5", 60).due("rule 2 200", 200);
    }

    public static void main(String[] args) {
        fullStands();
        fullRefusesState();
        fullRefusesArgument();
        fullRefusesIndex();
        firstNamed();
        emptyRefuses();
        askingChangesNothing();
        manyCalls();
        wrapsAround();
        digestOfNothing();
        parents();
        eachForItself();
        Trial.close("EdgesOfTheWholeTest");
    }
}
