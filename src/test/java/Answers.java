import java.util.concurrent.Callable;

/** What a call answered, as text: its value, or the name of the exception that it threw. */
final class Answers {
    static final String INDEX = "IndexOutOfBoundsException";
    static final String ARGUMENT = "IllegalArgumentException";
    static final String STATE = "IllegalStateException";

    private Answers() {
    }

    static String of(Callable<Object> call) {
        try {
            return String.valueOf(call.call());
        } catch (Exception e) {
            // A court must throw by itself: what the library throws for it has another place on top, and
            // what the machine throws often may bear no place at all.
            StackTraceElement[] trace = e.getStackTrace();
            String thrower = trace.length == 0 ? "the machine" : trace[0].getClassName();
            boolean isOwn = thrower.equals("RegressionCourt") || thrower.equals("SlowCourt");
            return isOwn ? e.getClass().getSimpleName() : e + " from " + thrower;
        }
    }
}
