/** Promise 4, and what failures do to turns (6), told (11) and close (14). */
public final class FailureTest {
    private static final int NONE = PackThreads.NONE, BAD = PackThreads.BAD;
    private static final int NO = PackThreads.NO;

    public static void main(String[] args) {
        wrongNumbers();
        onceOnly();
        kinds();
        oneOfABlock();
        stepsThatNeverCome();
        blocksThatAreNotThere();
        lastStep();
        twiceStops();
        orderOfThoseDoneAgain();
        noneBesideOneDoneAgain();
        threadZeroCountsToo();
        memoryOfAFailure();
        holdingWhenStopped();
        holdingOneDoneAgain();
        interruptsBehindAFailure();
        closeBehindAFailure();
        Due.finish();
    }

    private static PackThreads of(int rowLimit, int bytes) {
        PackThreads x = new PackThreads();
        x.set(0, 4);
        x.set(1, 0);
        x.set(3, rowLimit);
        for (int i = 0; i < bytes; i++) {
            x.type(i);
        }
        return x;
    }

    private static void makeBlock(PackThreads x, int number) {
        Due.turns("a block of 4 is made", x, 1, number, number, number, number);
    }

    private static void wrongNumbers() {
        PackThreads x = of(1, 4);
        Due.is("plant(-1, 0, 1)", x.plant(-1, 0, 1, false), BAD);
        Due.is("plant(40, 0, 1)", x.plant(40, 0, 1, false), BAD);
        Due.is("plant(0, -1, 1)", x.plant(0, -1, 1, false), BAD);
        Due.is("plant(0, 32, 1)", x.plant(0, 32, 1, false), BAD);
        Due.is("plant(0, 0, 0)", x.plant(0, 0, 0, true), BAD);
        Due.is("plant(0, 0, 7)", x.plant(0, 0, 7, true), BAD);
        int[] far = {Integer.MIN_VALUE, Integer.MAX_VALUE};
        for (int v : far) {
            Due.is("plant(" + v + ", 0, 1)", x.plant(v, 0, 1, false), BAD);
            Due.is("plant(0, " + v + ", 1)", x.plant(0, v, 1, false), BAD);
            Due.is("plant(0, 0, " + v + ")", x.plant(0, 0, v, false), BAD);
        }
        Due.is("plant(39, 31, 6)", x.plant(39, 31, 6, false), 1);
        Due.is("begin", x.begin(1), 1);
        Due.is("plant when begun", x.plant(0, 0, 1, false), NO);
        Due.is("plant of a wrong block when begun", x.plant(40, 0, 1, false), BAD);
        Due.is("plant of a wrong kind when begun", x.plant(0, 0, 7, false), BAD);
        Due.is("nothing was planted", x.run(400), 6);
        Due.is("no failure", x.told(8), 0);
    }

    private static void onceOnly() {
        PackThreads x = of(1, 4);
        Due.is("plant", x.plant(0, 2, 4, false), 1);
        x.begin(1);
        Due.turns("take and two steps", x, 1, 0, 0, 0);
        Due.thread("before it fails", x, 0, 2, 0, 2, 0, 0);
        Due.turns("it fails", x, 1, 0);
        Due.thread("free", x, 0, 0, NONE, NONE, 0, 0);
        Due.told("to be done again", x, 1, 0, 0, 64, 0, 0, NONE, 0, 1, 4, 1);
        Due.turns("taken again", x, 1, 0);
        Due.thread("from step 0", x, 0, 2, 0, 0, 0, 0);
        Due.told("done again", x, 1, 0, 0, 60, 0, 0, NONE, 0, 1, 5, 0);
        makeBlock(x, 0);
        Due.told("joined", x, 1, 1, 6, 64, 0, 0, NONE, 0, 1, 9, 0);
        Due.out("joined", x, 4, 0, 1, 2, 3, 0);
        Due.turns("end", x, 1, 0);
    }

    private static void kinds() {
        for (int kind = 1; kind <= 6; kind++) {
            PackThreads x = of(1, 4);
            Due.is("plant", x.plant(0, 1, kind, true), 1);
            x.begin(1);
            Due.is("take, step, fail, take, step, fail, end", x.run(400), 7);
            Due.told("kind " + kind, x, 1, 0, 0, 64, 0, 0, 0, kind, 2, 7, 0);
        }
    }

    private static void oneOfABlock() {
        PackThreads x = of(1, 4);
        x.plant(0, 0, 1, true);
        Due.is("in place of it", x.plant(0, 3, 2, false), 1);
        x.begin(1);
        Due.turns("take and three steps", x, 1, 0, 0, 0, 0);
        Due.is("no failure at step 0", x.told(8), 0);
        Due.is("fails once at step 3", x.run(400), 7);
        Due.told("joined", x, 1, 1, 6, 64, 0, 0, NONE, 0, 1, 11, 0);

        PackThreads y = of(1, 8);
        y.plant(1, 0, 3, false);
        y.plant(0, 0, 1, false);
        Due.is("in place of it, for twice", y.plant(0, 0, 6, true), 1);
        y.begin(1);
        y.run(400);
        Due.told("stopped", y, 2, 0, 0, 64, 0, 0, 0, 6, 2, 5, 0);
    }

    private static void stepsThatNeverCome() {
        PackThreads x = of(1, 4);
        x.plant(0, 4, 1, true);
        x.begin(1);
        Due.is("a block of 4 has no step 4", x.run(400), 6);
        Due.told("joined", x, 1, 1, 6, 64, 0, 0, NONE, 0, 0, 6, 0);
        PackThreads y = new PackThreads();
        Due.types(y, "aaaaaaaa");
        y.plant(0, 2, 1, true);
        y.begin(1);
        Due.is("a byte and a copy are two steps", y.run(400), 4);
        Due.told("joined", y, 1, 1, 5, 64, 0, 0, NONE, 0, 0, 4, 0);
    }

    private static void blocksThatAreNotThere() {
        PackThreads x = of(1, 8);
        x.plant(2, 0, 1, true);
        x.begin(1);
        Due.is("no block 2", x.run(400), 11);
        Due.is("no failure", x.told(8), 0);
    }

    private static void lastStep() {
        PackThreads x = new PackThreads();
        x.set(0, 32);
        for (int i = 0; i < 32; i++) {
            x.type(i);
        }
        x.plant(0, 31, 2, true);
        x.begin(1);
        Due.is("take and 31 steps", x.run(32), 32);
        Due.is("not yet", x.told(8), 0);
        Due.is("fails", x.run(1), 1);
        Due.is("failed", x.told(8), 1);
        Due.is("done again up to there", x.run(32), 32);
        Due.is("fails", x.run(1), 1);
        Due.told("stopped", x, 1, 0, 0, 64, 0, 0, 0, 2, 2, 66, 0);
        PackThreads y = of(1, 160);
        y.plant(39, 0, 5, true);
        y.begin(6);
        y.run(400);
        Due.is("the last block that could be", y.told(6), 39);
        Due.is("all before it are joined", y.told(1), 39);
    }

    private static void twiceStops() {
        PackThreads x = of(1, 12);
        x.plant(1, 1, 5, true);
        x.begin(2);
        Due.turns("take", x, 1, 0, 1);
        Due.turns("step and fail", x, 1, 1, 1);
        Due.told("to be done again", x, 3, 0, 0, 60, 0, 0, NONE, 0, 1, 4, 1);
        makeBlock(x, 0);
        Due.turns("taken again by another", x, 1, 0);
        Due.thread("taken again by another", x, 0, 2, 1, 0, 1, 0);
        Due.turns("step and fail", x, 1, 0, 0);
        Due.told("stopped", x, 3, 1, 6, 64, 0, 0, 1, 5, 2, 11, 0);
        Due.thread("free", x, 0, 0, NONE, NONE, 1, 0);
        Due.turns("both end", x, 1, 0, 1);
        Due.thread("ended", x, 0, 4, NONE, NONE, 1, 1);
        Due.turns("ended before", x, 0, 0, 1);
        Due.out("what was joined stays", x, 4, 0, 1, 2, 3, 0);
    }

    private static void orderOfThoseDoneAgain() {
        PackThreads x = of(8, 16);
        x.plant(0, 1, 1, false);
        x.plant(1, 0, 2, false);
        x.plant(2, 0, 3, false);
        x.begin(3);
        Due.turns("take", x, 1, 0, 1, 2);
        Due.turns("2, 1, then 0 fails", x, 1, 2, 1, 0, 0);
        Due.told("three", x, 4, 0, 0, 64, 0, 0, NONE, 0, 3, 7, 3);
        Due.turns("the first that failed is taken", x, 1, 1);
        Due.thread("block 2", x, 1, 2, 2, 0, 0, 0);
        Due.turns("a block is done again", x, 0, 0, 2);
        makeBlock(x, 1);
        Due.turns("then the second", x, 1, 0);
        Due.thread("block 1", x, 0, 2, 1, 0, 0, 0);
        makeBlock(x, 0);
        Due.turns("then the third", x, 1, 0);
        Due.thread("block 0", x, 0, 2, 0, 0, 1, 0);
        makeBlock(x, 0);
        Due.told("three are joined", x, 4, 3, 18, 64, 0, 0, NONE, 0, 3, 22, 0);
        Due.turns("then the one never taken", x, 1, 2);
        Due.thread("block 3", x, 2, 2, 3, 0, 0, 0);
    }

    private static void noneBesideOneDoneAgain() {
        PackThreads x = of(8, 16);
        x.plant(0, 0, 1, false);
        x.begin(3);
        Due.turns("take, and 0 fails", x, 1, 0, 1, 0);
        Due.turns("another is at work", x, 0, 0, 2);
        Due.thread("no new block is taken either", x, 2, 0, NONE, NONE, 0, 0);
        makeBlock(x, 1);
        Due.is("interrupt(1)", x.interrupt(1), 1);
        Due.turns("alone now", x, 1, 2);
        Due.thread("done again", x, 2, 2, 0, 0, 0, 0);
        Due.turns("passed over", x, 0, 0);
        Due.turns("an interrupted one ends all the same", x, 1, 1);
        makeBlock(x, 2);
        Due.turns("blocks are taken again", x, 1, 0, 2);
        Due.thread("block 2", x, 0, 2, 2, 0, 0, 0);
        Due.thread("block 3", x, 2, 2, 3, 0, 1, 0);
    }

    private static void threadZeroCountsToo() {
        PackThreads x = of(8, 16);
        x.plant(1, 0, 1, false);
        x.begin(2);
        Due.turns("take, and 1 fails", x, 1, 0, 1, 1);
        Due.turns("thread 0 is at work", x, 0, 1);
        makeBlock(x, 0);
        Due.turns("thread 0 does block 1 again", x, 1, 0);
        Due.thread("done again", x, 0, 2, 1, 0, 1, 0);
        Due.is("none is left to be done again", x.told(10), 0);
        Due.turns("block 2 is not taken beside it", x, 0, 1);
        makeBlock(x, 0);
        Due.turns("it is taken then", x, 1, 1);
        Due.thread("block 2", x, 1, 2, 2, 0, 0, 0);
    }

    private static void memoryOfAFailure() {
        PackThreads x = new PackThreads();
        x.set(0, 32);
        x.set(2, 32);
        for (int i = 0; i < 160; i++) {
            x.type(i);
        }
        x.plant(0, 0, 3, false);
        x.begin(2);
        Due.turns("work and line", x, 1, 0, 1);
        Due.turns("the failure gives memory back", x, 1, 0);
        Due.thread("the one in line is at work", x, 1, 2, 1, 0, 0, 0);
        Due.told("no cell is left", x, 5, 0, 0, 0, 0, 0, NONE, 0, 1, 3, 1);
        Due.turns("another is at work", x, 0, 0);
    }

    private static void holdingWhenStopped() {
        PackThreads x = of(1, 16);
        x.plant(0, 0, 6, true);
        x.begin(4);
        Due.turns("take", x, 1, 0, 1, 2);
        makeBlock(x, 2);
        makeBlock(x, 1);
        Due.thread("holding", x, 1, 3, 1, NONE, 1, 0);
        Due.turns("fail, take again, fail", x, 1, 0, 0, 0);
        Due.told("stopped", x, 4, 0, 0, 64, 0, 1, 0, 6, 2, 14, 0);
        Due.turns("the one that holds ends", x, 1, 1);
        Due.thread("ended", x, 1, 4, NONE, NONE, 1, 1);
        Due.is("the row stays", x.told(5), 1);
        Due.is("the others end", x.run(400), 3);
        Due.is("nothing is joined", x.told(2), 0);
    }

    private static void holdingOneDoneAgain() {
        // A pack that is held is made: the next block may be done again then.
        PackThreads x = of(1, 16);
        x.plant(1, 0, 1, false);
        x.plant(0, 1, 1, false);
        x.begin(3);
        Due.turns("take", x, 1, 0, 1, 2);
        makeBlock(x, 2);
        Due.turns("1 fails, 0 fails", x, 1, 1, 0, 0);
        Due.turns("1 is taken again", x, 1, 1);
        makeBlock(x, 1);
        Due.thread("and held", x, 1, 3, 1, NONE, 1, 0);
        Due.turns("0 is taken again", x, 1, 0);
        Due.thread("0 is done again", x, 0, 2, 0, 0, 0, 0);
        makeBlock(x, 0);
        Due.is("0 is joined", x.told(1), 1);
        Due.is("the rest", x.run(400), 9);
        Due.is("all are joined", x.told(1), 4);
    }

    private static void interruptsBehindAFailure() {
        PackThreads x = of(1, 4);
        x.plant(0, 0, 1, false);
        x.begin(2);
        Due.turns("take", x, 1, 0);
        Due.is("interrupt", x.interrupt(0), 1);
        Due.turns("fail, end", x, 1, 0, 0);
        Due.thread("ended", x, 0, 4, NONE, NONE, 0, 1);
        Due.is("the other does it again", x.run(400), 6);
        Due.thread("the other", x, 1, 4, NONE, NONE, 1, 1);
        Due.is("joined", x.told(1), 1);
    }

    private static void closeBehindAFailure() {
        PackThreads x = of(1, 12);
        x.plant(0, 0, 1, false);
        x.plant(1, 0, 2, true);
        x.begin(3);
        Due.turns("take and fail", x, 1, 0, 1, 0, 1);
        Due.turns("0 is taken again", x, 1, 2);
        Due.is("close", x.close(), 3);
        Due.told("closed", x, 3, 0, 0, 64, 0, 0, NONE, 0, 2, 5, 1);
    }
}
