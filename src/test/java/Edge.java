import java.util.function.ToLongFunction;

/** One call at an edge: what it answers, what count() and status() say behind it, and what it leaves as it was. */
final class Edge {
    private static final int[] CODES = {-1, -2, -3, -5, -6};

    private final Due due;

    Edge(Due due) {
        this.due = due;
    }

    /** count(5) to count(9), one more for the code by which a call is to be REFUSED (0: by none). */
    private static String refusals(HotIron x, int by) {
        return Look.row(5, k -> x.count(5 + k) + (CODES[k] == by ? 1 : 0));
    }

    private void check(HotIron x, String call, ToLongFunction<HotIron> made, long answer, int by, int status) {
        String refusals = refusals(x, by);
        due.is(call, made.applyAsLong(x), answer);
        due.is(call + ": status()", x.status(), status);
        due.is(call + ": count(5) to count(9)", refusals(x, 0), refusals);
    }

    /** A call that is REFUSED by a code, which is its answer; nothing changes but what is named. */
    void refused(HotIron x, String call, ToLongFunction<HotIron> made, int by, String changes) {
        Look before = new Look(x);
        check(x, call, made, by, by, by);
        due.is(call + " changes", before.changed(new Look(x)), changes);
    }

    void refused(HotIron x, String call, ToLongFunction<HotIron> made, int by) {
        refused(x, call, made, by, "");
    }

    /** A call that could be REFUSED, but is not, behind one that was; nothing changes but what is named. */
    void granted(HotIron x, String call, ToLongFunction<HotIron> made, long answer, String changes) {
        Look before = new Look(x);
        x.wide(0);
        check(x, call, made, answer, 0, 0);
        due.is(call + " changes", before.changed(new Look(x)), changes);
    }

    /** A call that is never REFUSED, whatever it answers, behind one that was; nothing changes but what is named. */
    void asked(HotIron x, String call, ToLongFunction<HotIron> made, long answer, String changes) {
        Look before = new Look(x);
        x.wide(0);
        check(x, call, made, answer, 0, -1);
        due.is(call + " changes", before.changed(new Look(x)), changes);
    }

    void asked(HotIron x, String call, ToLongFunction<HotIron> made, long answer) {
        asked(x, call, made, answer, "");
    }
}
