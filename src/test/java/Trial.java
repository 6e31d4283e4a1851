import java.math.BigInteger;
import java.util.ArrayList;
import java.util.List;
import java.util.Map;
import java.util.Set;

/**
 * A court under test. Its calls are texts, such as "run 0 0 100" (MIN and MAX are the bounds of int), so that a
 * court like it can be made again. That is how a court that refused a call is held against one that never got it,
 * by every asking call there is, though an object is used for 512 calls at most.
 */
final class Trial {
    private static final int MOST_CALLS = 512;
    private static final Map<String, Integer> ARGUMENTS = Map.ofEntries(
            Map.entry("machine", 2), Map.entry("measure", 2), Map.entry("ofMachine", 2), Map.entry("changes", 1),
            Map.entry("run", 3), Map.entry("strike", 1), Map.entry("ofRun", 2), Map.entry("ofChange", 2),
            Map.entry("verdict", 3), Map.entry("doubt", 2), Map.entry("rule", 2), Map.entry("begin", 2),
            Map.entry("drop", 0), Map.entry("ofCase", 1), Map.entry("move", 0), Map.entry("excuse", 2),
            Map.entry("budget", 1), Map.entry("many", 1), Map.entry("minutesFor", 1), Map.entry("verdictWith", 3),
            Map.entry("without", 1), Map.entry("wouldMove", 0), Map.entry("digest", 0));
    private static final Set<String> TELLING = Set.of("machine", "measure", "changes", "run", "strike", "rule",
            "begin", "drop", "move", "excuse", "budget");

    private static String sentence = "";
    private static int sentences = 0;
    private static int asked = 0;
    private static int wrong = 0;

    private final List<String> told = new ArrayList<>();
    private final RegressionCourt court = new RegressionCourt();
    private int calls = 0;

    /** A court that has been told these calls. */
    Trial(String... calls) {
        tell(calls);
    }

    /** The sentence of the document that the trials from here on are about. */
    static void sentence(String words) {
        sentence = words;
        sentences++;
    }

    static void same(String what, String got, String due) {
        asked++;
        if (!got.equals(due)) fail(what + " answered " + got + ", due is " + due);
    }

    static void close(String test) {
        System.out.println(test + ": " + sentences + " sentences, " + asked + " answers, " + wrong + " wrong");
        if (wrong != 0) System.exit(1);
    }

    /** Tells calls that must be taken. */
    Trial tell(String... calls) {
        for (String call : calls) {
            String got = answer(call);
            if (got.contains("Exception")) fail(call + " answered " + got + ", but it is to be taken");
        }
        return this;
    }

    /** Tells a run of the change for each time, on machine 0. */
    Trial runs(int change, int... times) {
        for (int time : times) tell("run " + change + " 0 " + time);
        return this;
    }

    Trial due(String call, Object due) {
        same(call, answer(call), String.valueOf(due));
        return this;
    }

    Trial refusesIndex(String... calls) {
        for (String call : calls) refuses(call, Answers.INDEX);
        return this;
    }

    Trial refusesArgument(String... calls) {
        for (String call : calls) refuses(call, Answers.ARGUMENT);
        return this;
    }

    Trial refusesState(String... calls) {
        for (String call : calls) refuses(call, Answers.STATE);
        return this;
    }

    /** Puts each asking call to courts like this one, with all arguments that it takes here: nothing changes. */
    Trial asksChangeNothing() {
        List<String> next = nextCalls();
        for (List<String> portion : portions(askingCalls(), told.size() + next.size())) {
            RegressionCourt plain = again();
            RegressionCourt asking = again();
            for (String ask : portion) callOn(asking, ask);
            for (String call : next) {
                same(call + " some calls behind " + portion.get(portion.size() - 1), callOn(asking, call), callOn(plain, call));
            }
        }
        return this;
    }

    /** The digest, put together from the answers in the document's order, in numbers without a bound. */
    BigInteger digestWithoutBound() {
        BigInteger d = BigInteger.valueOf(5750);
        for (String answer : answers(digestedCalls(), "")) {
            d = d.multiply(BigInteger.valueOf(31)).add(new BigInteger(answer));
        }
        return d;
    }

    private void refuses(String call, String exception) {
        same(call, answer(call), exception);
        changesNothing(call);
    }

    private void changesNothing(String call) {
        List<String> asks = askingCalls();
        List<String> before = answers(asks, "");
        List<String> behind = answers(asks, call);
        for (int i = 0; i < asks.size(); i++) {
            same(asks.get(i) + " behind " + call, behind.get(i), before.get(i));
        }
        RegressionCourt plain = again();
        RegressionCourt other = again();
        callOn(other, call);
        for (String next : nextCalls()) {
            same(next + " some calls behind " + call, callOn(other, next), callOn(plain, next));
        }
    }

    private String answer(String call) {
        calls++;
        if (calls > MOST_CALLS) fail("the test uses one object for more than " + MOST_CALLS + " calls");
        String got = callOn(court, call);
        if (TELLING.contains(call.split(" ")[0]) && !got.contains("Exception")) told.add(call);
        return got;
    }

    /** The answers to the asks of courts like this one, to which another call may have been put ahead. */
    private List<String> answers(List<String> asks, String ahead) {
        List<String> answers = new ArrayList<>();
        for (List<String> portion : portions(asks, told.size() + 1)) {
            RegressionCourt fresh = again();
            if (!ahead.isEmpty()) callOn(fresh, ahead);
            for (String ask : portion) answers.add(callOn(fresh, ask));
        }
        return answers;
    }

    /** Cuts the asks so that no object gets more calls than it is good for, with so many others. */
    private static List<List<String>> portions(List<String> asks, int others) {
        int most = MOST_CALLS - others;
        if (most < 1) throw new AssertionError("no calls are left to ask");
        List<List<String>> portions = new ArrayList<>();
        for (int from = 0; from < asks.size(); from += most) {
            portions.add(asks.subList(from, Math.min(asks.size(), from + most)));
        }
        return portions;
    }

    private RegressionCourt again() {
        RegressionCourt fresh = new RegressionCourt();
        for (String call : told) callOn(fresh, call);
        return fresh;
    }

    private static void fail(String what) {
        wrong++;
        System.out.println("[" + sentence + "] " + what);
    }

    private int count(int what) {
        return again().many(what);
    }

    private static void addAll(List<String> asks, String name, int things, int whats) {
        for (int thing = 0; thing < things; thing++) {
            for (int what = 0; what < whats; what++) asks.add(name + " " + thing + " " + what);
        }
    }

    private List<String> askingCalls() {
        List<String> asks = digestedCalls();
        int changes = count(1);
        for (int a = 0; a < changes; a++) {
            for (int b = 0; b < changes; b++) {
                String pair = a + " " + b;
                for (int what = 0; what <= 4; what++) asks.add("verdict " + pair + " " + what);
                asks.add("doubt " + pair);
                asks.add("verdictWith " + pair + " 1");
                asks.add("verdictWith " + pair + " 20000");
            }
        }
        asks.add("digest");
        return asks;
    }

    private List<String> digestedCalls() {
        List<String> asks = new ArrayList<>();
        int changes = count(1);
        for (int what = 0; what <= 8; what++) asks.add("many " + what);
        for (int machine = 0; machine < count(0); machine++) {
            for (int what = 0; what <= 4; what++) asks.add("ofMachine " + machine + " " + what);
            asks.add("without " + machine);
        }
        for (int change = 0; change < changes; change++) {
            for (int what = 0; what <= 5; what++) asks.add("ofChange " + change + " " + what);
            asks.add("minutesFor " + change);
        }
        addAll(asks, "ofRun", count(2), 6);
        for (int child = 1; child < changes; child++) {
            for (int what = 0; what <= 4; what++) asks.add("verdict " + (child - 1) + " " + child + " " + what);
        }
        for (int what = 0; what <= 3; what++) asks.add("ofCase " + what);
        asks.add("wouldMove");
        return asks;
    }

    /** Calls that bring to light what no asking call shows: ENOUGH, LEVEL, MEASURES before, RUNS before. */
    private List<String> nextCalls() {
        List<String> next = new ArrayList<>();
        for (int run = 0; run < count(2); run += 3) next.add("strike " + run);
        next.add("digest");
        for (int machine = 0; machine < count(0); machine++) {
            next.add("measure " + machine + " 100");
            next.add("digest");
            next.add("measure " + machine + " 100");
            next.add("run 0 " + machine + " 100");
        }
        next.addAll(List.of("digest", "begin 0 1", "drop", "move", "changes 1", "budget 1", "begin 0 1", "rule 2 200",
                "digest", "rule 3 50", "machine 1 100", "digest", "move"));
        for (int change = 0; change < count(1); change++) next.add("excuse " + change + " 1");
        next.add("digest");
        return next;
    }

    private static int number(String word) {
        if (word.equals("MIN")) return Integer.MIN_VALUE;
        if (word.equals("MAX")) return Integer.MAX_VALUE;
        return Integer.parseInt(word);
    }

    private static String callOn(RegressionCourt court, String text) {
        String[] words = text.split(" ");
        if (!ARGUMENTS.containsKey(words[0]) || ARGUMENTS.get(words[0]) != words.length - 1) {
            throw new AssertionError("no call of the document: " + text);
        }
        int[] n = new int[3];
        for (int i = 1; i < words.length; i++) n[i - 1] = number(words[i]);
        return Answers.of(() -> called(court, words[0], n[0], n[1], n[2]));
    }

    private static Object called(RegressionCourt court, String name, int a, int b, int c) {
        switch (name) {
            case "machine": return court.machine(a, b);
            case "measure": return court.measure(a, b);
            case "ofMachine": return court.ofMachine(a, b);
            case "changes": return court.changes(a);
            case "run": return court.run(a, b, c);
            case "strike": return court.strike(a);
            case "ofRun": return court.ofRun(a, b);
            case "ofChange": return court.ofChange(a, b);
            case "verdict": return court.verdict(a, b, c);
            case "doubt": return court.doubt(a, b);
            case "rule": return court.rule(a, b);
            case "begin": return court.begin(a, b);
            case "drop": return court.drop();
            case "ofCase": return court.ofCase(a);
            case "move": return court.move();
            case "excuse": return court.excuse(a, b);
            case "budget": return court.budget(a);
            case "many": return court.many(a);
            case "minutesFor": return court.minutesFor(a);
            case "verdictWith": return court.verdictWith(a, b, c);
            case "without": return court.without(a);
            case "wouldMove": return court.wouldMove();
            default: return court.digest();
        }
    }
}
