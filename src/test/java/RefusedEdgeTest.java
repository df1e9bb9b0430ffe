import java.util.function.Supplier;
import java.util.function.ToIntFunction;

/** Calls that are refused change nothing: promises 2 to 9, 11, 12, 14, one test for each promise. */
public final class RefusedEdgeTest {
    private static final String RULE = "Calls answer, the first of these that fits: "
            + "BAD (a number is not as told, no such thing), NO (as told), FULL; then nothing changes.";
    private static final int NONE = PackThreads.NONE, BAD = PackThreads.BAD;
    private static final int NO = PackThreads.NO, FULL = PackThreads.FULL;

    public static void main(String[] args) {
        type();
        typeWhenFull();
        set();
        plant();
        begin();
        turn();
        run();
        interrupt();
        thread();
        told();
        waiting();
        close();
        Due.finish();
    }

    /** Other settings than at first, a text with copies, and two failures. */
    private static PackThreads ready() {
        PackThreads x = Make.packing(5, 7, "abcabcabcXabcdeabc");
        x.set(2, 33);
        x.set(3, 1);
        x.plant(1, 1, 4, false);
        x.plant(3, 0, 2, true);
        return x;
    }

    /** Of three threads 0 had the latest turn, and 2 is interrupted. */
    private static PackThreads middle() {
        PackThreads x = ready();
        x.begin(3);
        x.run(4);
        x.interrupt(2);
        return x;
    }

    /** One works, two wait, and one is free. */
    private static PackThreads line() {
        PackThreads x = Make.apart(32, 32, 1, 96);
        x.plant(0, 3, 5, false);
        x.begin(4);
        x.run(7);
        return x;
    }

    private static PackThreads stopped() {
        PackThreads x = ready();
        x.begin(2);
        for (int k = 0; k < 100 && x.told(6) == NONE; k++) {
            x.run(1);
        }
        return x;
    }

    private static PackThreads closed() {
        PackThreads x = middle();
        x.close();
        return x;
    }

    private static PackThreads cleared() {
        PackThreads x = middle();
        x.clear();
        return x;
    }

    private static PackThreads full() {
        return Make.packing(32, 16, "a".repeat(160));
    }

    /** Of two objects in one state one is refused; from there on both answer the same. */
    private static void refused(String call, int want, Supplier<PackThreads> state,
            ToIntFunction<PackThreads> refusal) {
        PackThreads x = state.get();
        PackThreads y = state.get();
        Due.is(call, refusal.applyAsInt(x), want);
        Alike.fromHereOn("behind " + call, x, y);
    }

    private static void refusedWhenBegun(String call, int want, ToIntFunction<PackThreads> refusal) {
        refused(call + " in the middle", want, RefusedEdgeTest::middle, refusal);
        refused(call + " with a line", want, RefusedEdgeTest::line, refusal);
        refused(call + " when stopped", want, RefusedEdgeTest::stopped, refusal);
        refused(call + " when closed", want, RefusedEdgeTest::closed, refusal);
    }

    private static void refusedWhenNotBegun(String call, int want, ToIntFunction<PackThreads> refusal) {
        refused(call + " of a new object", want, PackThreads::new, refusal);
        refused(call + " before begin", want, RefusedEdgeTest::ready, refusal);
        refused(call + " behind clear", want, RefusedEdgeTest::cleared, refusal);
    }

    private static void refusedAlways(String call, int want, ToIntFunction<PackThreads> refusal) {
        refusedWhenBegun(call, want, refusal);
        refusedWhenNotBegun(call, want, refusal);
    }

    private static void type() {
        Due.sentence(2, RULE);
        refusedAlways("type(-1)", BAD, x -> x.type(-1));
        refusedAlways("type(256)", BAD, x -> x.type(256));
        refusedWhenBegun("type(97)", NO, x -> x.type(97));
    }

    private static void typeWhenFull() {
        Due.sentence(2, RULE);
        refused("type(98) when full", FULL, RefusedEdgeTest::full, x -> x.type(98));
        refused("type(256) when full", BAD, RefusedEdgeTest::full, x -> x.type(256));
        refused("type(-1) when full", BAD, RefusedEdgeTest::full, x -> x.type(-1));
    }

    private static void set() {
        Due.sentence(3, RULE);
        int[] least = {4, 0, 32, 1};
        int[] most = {32, 64, 200, 8};
        for (int k = 0; k < 4; k++) {
            int what = k;
            refusedAlways("set(" + what + ", too small)", BAD, x -> x.set(what, least[what] - 1));
            refusedAlways("set(" + what + ", too large)", BAD, x -> x.set(what, most[what] + 1));
            refusedWhenBegun("set(" + what + ", the least)", NO, x -> x.set(what, least[what]));
            refusedWhenBegun("set(" + what + ", the most)", NO, x -> x.set(what, most[what]));
        }
        refusedAlways("set(-1, 8)", BAD, x -> x.set(-1, 8));
        refusedAlways("set(4, 8)", BAD, x -> x.set(4, 8));
    }

    private static void plant() {
        Due.sentence(4, RULE);
        int[][] wrong = {{-1, 0, 1}, {40, 0, 1}, {0, -1, 1}, {0, 32, 1}, {0, 0, 0}, {1, 0, 7}};
        for (int[] w : wrong) {
            refusedAlways("plant(" + w[0] + ", " + w[1] + ", " + w[2] + ")", BAD,
                    x -> x.plant(w[0], w[1], w[2], true));
        }
        for (int k = 0; k < 4; k++) {
            int block = k;
            refusedWhenBegun("plant(" + block + ", 0, 1)", NO, x -> x.plant(block, 0, 1, true));
            refusedWhenBegun("plant(" + block + ", 4, 6)", NO, x -> x.plant(block, 4, 6, false));
        }
    }

    private static void begin() {
        Due.sentence(5, RULE);
        refusedAlways("begin(0)", BAD, x -> x.begin(0));
        refusedAlways("begin(7)", BAD, x -> x.begin(7));
        refusedWhenBegun("begin(1)", NO, x -> x.begin(1));
        refusedWhenBegun("begin(6)", NO, x -> x.begin(6));
    }

    private static void turn() {
        Due.sentence(6, RULE);
        refusedAlways("turn(-1)", BAD, x -> x.turn(-1));
        refusedAlways("turn(6)", BAD, x -> x.turn(6));
        refused("turn(3) of three", BAD, RefusedEdgeTest::middle, x -> x.turn(3));
        refused("turn(4) of four", BAD, RefusedEdgeTest::line, x -> x.turn(4));
        refusedWhenNotBegun("turn(0)", NO, x -> x.turn(0));
        refusedWhenNotBegun("turn(5)", NO, x -> x.turn(5));
    }

    private static void run() {
        Due.sentence(7, RULE);
        refusedAlways("run(-1)", BAD, x -> x.run(-1));
        refusedAlways("run(401)", BAD, x -> x.run(401));
        refusedWhenNotBegun("run(0)", NO, x -> x.run(0));
        refusedWhenNotBegun("run(400)", NO, x -> x.run(400));
    }

    private static void interrupt() {
        Due.sentence(8, RULE);
        refusedAlways("interrupt(-1)", BAD, x -> x.interrupt(-1));
        refusedAlways("interrupt(6)", BAD, x -> x.interrupt(6));
        refused("interrupt(3) of three", BAD, RefusedEdgeTest::middle, x -> x.interrupt(3));
        refused("interrupt(4) of four", BAD, RefusedEdgeTest::line, x -> x.interrupt(4));
        refusedWhenNotBegun("interrupt(0)", NO, x -> x.interrupt(0));
        refusedWhenNotBegun("interrupt(5)", NO, x -> x.interrupt(5));
    }

    private static void thread() {
        Due.sentence(9, RULE);
        refusedAlways("thread(-1, 0)", BAD, x -> x.thread(-1, 0));
        refusedAlways("thread(6, 0)", BAD, x -> x.thread(6, 0));
        refusedAlways("thread(0, -1)", BAD, x -> x.thread(0, -1));
        refusedAlways("thread(0, 5)", BAD, x -> x.thread(0, 5));
        refused("thread(3, 0) of three", BAD, RefusedEdgeTest::middle, x -> x.thread(3, 0));
        refusedWhenNotBegun("thread(0, 0)", NO, x -> x.thread(0, 0));
    }

    private static void told() {
        Due.sentence(11, RULE);
        refusedAlways("told(-1)", BAD, x -> x.told(-1));
        refusedAlways("told(11)", BAD, x -> x.told(11));
        refusedWhenNotBegun("told(0)", NO, x -> x.told(0));
        refusedWhenNotBegun("told(10)", NO, x -> x.told(10));
    }

    private static void waiting() {
        Due.sentence(12, RULE);
        refusedWhenNotBegun("waiting(0)", NO, x -> x.waiting(0));
        refusedWhenNotBegun("waiting(-1)", NO, x -> x.waiting(-1));
        refusedWhenBegun("waiting(-1)", NONE, x -> x.waiting(-1));
        refusedWhenBegun("waiting(6)", NONE, x -> x.waiting(6));
    }

    private static void close() {
        Due.sentence(14, RULE);
        refusedWhenNotBegun("close()", NO, x -> x.close());
    }
}
