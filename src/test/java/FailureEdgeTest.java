/** The edges of failures: promises 4, 6, 11, 12, sentence by sentence. */
public final class FailureEdgeTest {
    private static final int NONE = PackThreads.NONE, BAD = PackThreads.BAD;
    private static final int NO = PackThreads.NO;
    private static final int LEAST_INT = Integer.MIN_VALUE, MOST_INT = Integer.MAX_VALUE;
    private static final int FREE = 0, WORK = 2, HOLDING = 3, ENDED = 4;

    public static void main(String[] args) {
        kindRange();
        blockRange();
        stepRange();
        firstTime();
        twice();
        inPlaceOfOne();
        plantBad();
        plantNo();
        thatBlockAndStep();
        stepsThatNeverCome();
        failureGivesMemoryBack();
        failureGivesTheLineMemory();
        lastOfThese();
        failedBefore();
        oneIsDoneAgain();
        oneDoneAgainIsHeld();
        firstOfThese();
        otherAtWork();
        takenBeforeNewOnes();
        noneBesideOneDoneAgain();
        doneAgainFailsOnlyForTwice();
        kinds();
        holdingWhenStopped();
        Due.finish();
    }

    private static PackThreads blocksOfFour(int rowLimit, int blocks) {
        return Make.apart(4, 64, rowLimit, 4 * blocks);
    }

    private static void kindRange() {
        Due.sentence(4, "A failure of a KIND (1 .. 6) is PLANTED");
        PackThreads x = new PackThreads();
        Due.is("kind 0", x.plant(0, 0, 0, false), BAD);
        Due.is("kind 1", x.plant(0, 0, 1, false), 1);
        Due.is("kind 6", x.plant(0, 0, 6, false), 1);
        Due.is("kind 7", x.plant(0, 0, 7, false), BAD);
    }

    private static void blockRange() {
        Due.sentence(4, "for a BLOCK (0 .. 39)");
        PackThreads x = blocksOfFour(2, 40);
        Due.is("block -1", x.plant(-1, 0, 1, false), BAD);
        Due.is("block 0", x.plant(0, 0, 1, false), 1);
        Due.is("block 39", x.plant(39, 0, 2, true), 1);
        Due.is("block 40", x.plant(40, 0, 1, false), BAD);
        x.begin(1);
        Due.is("take and fail", x.run(2), 2);
        Due.told("block 0 failed", x, 40, 0, 0, 64, 0, 0, NONE, 0, 1, 2, 1);
        x.run(400);
        Due.told("block 39 failed twice", x, 40, 39, 234, 64, 0, 0, 39, 2, 3);
        PackThreads y = blocksOfFour(2, 1);
        Due.is("a block that is not there", y.plant(1, 0, 1, true), 1);
        y.begin(1);
        Due.is("does not fail", y.run(400), 6);
    }

    private static void stepRange() {
        Due.sentence(4, "at a STEP (0 .. 31)");
        PackThreads x = Make.apart(32, 64, 2, 64);
        Due.is("step -1", x.plant(0, -1, 1, false), BAD);
        Due.is("step 0", x.plant(0, 0, 1, false), 1);
        Due.is("step 31", x.plant(1, 31, 2, false), 1);
        Due.is("step 32", x.plant(0, 32, 1, false), BAD);
        x.begin(1);
        Due.is("take and fail at step 0", x.run(2), 2);
        Due.is("one failure", x.told(8), 1);
        Due.is("block 0 again, block 1 up to step 31", x.run(33 + 32), 65);
        Due.thread("at step 31", x, 0, WORK, 1, 31, 1);
        Due.is("no more failures yet", x.told(8), 1);
        Due.is("fail at step 31", x.run(1), 1);
        Due.is("two failures", x.told(8), 2);
    }

    private static void firstTime() {
        Due.sentence(4, "for the first time");
        PackThreads x = blocksOfFour(2, 1);
        Due.is("plant", x.plant(0, 3, 4, false), 1);
        x.begin(1);
        Due.is("take, 3 steps, fail", x.run(5), 5);
        Due.told("failed", x, 1, 0, 0, 64, 0, 0, NONE, 0, 1, 5, 1);
        Due.is("take, 4 steps, end", x.run(400), 6);
        Due.told("joined", x, 1, 1, 6, 64, 0, 0, NONE, 0, 1, 11, 0);
    }

    private static void twice() {
        Due.sentence(4, "or for twice");
        PackThreads x = blocksOfFour(2, 1);
        Due.is("plant", x.plant(0, 3, 4, true), 1);
        x.begin(1);
        Due.is("take, 3 steps, fail", x.run(5), 5);
        Due.told("failed", x, 1, 0, 0, 64, 0, 0, NONE, 0, 1, 5, 1);
        Due.is("take, 3 steps, fail", x.run(5), 5);
        Due.told("stopped", x, 1, 0, 0, 64, 0, 0, 0, 4, 2, 10, 0);
        Due.is("end", x.run(400), 1);
    }

    private static void inPlaceOfOne() {
        Due.sentence(4, "(in place of one of that BLOCK): 1.");
        PackThreads x = blocksOfFour(2, 2);
        x.plant(0, 0, 1, true);
        x.plant(1, 1, 2, true);
        Due.is("later, once", x.plant(0, 3, 3, false), 1);
        x.begin(1);
        Due.is("take and 3 steps", x.run(4), 4);
        Due.is("no failure at step 0", x.told(8), 0);
        Due.is("fail at step 3", x.run(1), 1);
        Due.is("a failure at step 3", x.told(8), 1);
        Due.is("take and 4 steps", x.run(5), 5);
        Due.told("joined: it was for once", x, 2, 1, 6, 64, 0, 0, NONE, 0, 1);
        x.run(400);
        Due.told("block 1 has its own", x, 2, 1, 6, 64, 0, 0, 1, 2, 3);
        PackThreads y = blocksOfFour(2, 1);
        y.plant(0, 3, 1, false);
        Due.is("sooner, twice", y.plant(0, 0, 6, true), 1);
        y.begin(1);
        Due.is("take, fail, take, fail, end", y.run(400), 5);
        Due.told("stopped", y, 1, 0, 0, 64, 0, 0, 0, 6, 2, 5, 0);
    }

    private static void plantBad() {
        Due.sentence(4, "BAD; NO: BEGUN.");
        PackThreads x = blocksOfFour(2, 1);
        PackThreads begun = blocksOfFour(2, 1);
        begun.begin(1);
        int[][] wrong = {{-1, 0, 1}, {40, 0, 1}, {0, -1, 1}, {0, 32, 1}, {0, 0, 0}, {0, 0, 7},
            {LEAST_INT, 0, 1}, {MOST_INT, 0, 1}, {0, LEAST_INT, 1}, {0, MOST_INT, 1},
            {0, 0, LEAST_INT}, {0, 0, MOST_INT}, {-1, -1, 0}, {40, 32, 7}};
        for (int[] w : wrong) {
            String call = "plant(" + w[0] + ", " + w[1] + ", " + w[2] + ")";
            Due.is(call, x.plant(w[0], w[1], w[2], true), BAD);
            Due.is("BAD before NO: " + call, begun.plant(w[0], w[1], w[2], true), BAD);
        }
        x.begin(1);
        Due.is("nothing was planted", x.run(400), 6);
        Due.is("nothing was planted", begun.run(400), 6);
    }

    private static void plantNo() {
        Due.sentence(4, "NO: BEGUN.");
        PackThreads x = blocksOfFour(2, 1);
        x.begin(1);
        Due.is("the least", x.plant(0, 0, 1, true), NO);
        Due.is("the most", x.plant(39, 31, 6, true), NO);
        Due.is("nothing was planted", x.run(400), 6);
        Due.is("all have ended: begun still", x.plant(0, 0, 1, true), NO);
        x.clear();
        x.type(0);
        x.begin(1);
        Due.is("nothing is planted behind clear", x.run(400), 3);
    }

    private static void thatBlockAndStep() {
        Due.sentence(6, "at WORK: if a failure is PLANTED there for that BLOCK and that STEP, "
                + "the BLOCK FAILS by its KIND");
        PackThreads x = blocksOfFour(2, 3);
        x.plant(1, 2, 5, true);
        x.begin(1);
        Due.is("block 0 has step 2 too", x.run(5), 5);
        Due.is("block 1 up to step 2", x.run(3), 3);
        Due.thread("at step 2", x, 0, WORK, 1, 2, 1, 0);
        Due.is("no failure yet", x.told(8), 0);
        Due.is("the failure is a turn that did something", x.turn(0), 1);
        Due.thread("failed", x, 0, FREE, NONE, NONE, 1, 0);
        Due.told("failed", x, 3, 1, 6, 64, 0, 0, NONE, 0, 1, 9, 1);
        Due.is("again: take, 2 steps, fail, end", x.run(400), 5);
        Due.told("stopped by its kind", x, 3, 1, 6, 64, 0, 0, 1, 5, 2, 14, 0);
    }

    private static void stepsThatNeverCome() {
        Due.sentence(6, "that STEP");
        PackThreads x = blocksOfFour(2, 1);
        x.plant(0, 4, 1, true);
        x.begin(1);
        Due.is("4 tokens have no step 4", x.run(400), 6);
        Due.is("no failure", x.told(8), 0);
        PackThreads y = Make.packing(8, 16, "aaaaaaaa");
        y.plant(0, 2, 1, true);
        y.begin(1);
        Due.is("a byte and a copy have no step 2", y.run(400), 4);
        Due.is("no failure", y.told(8), 0);
        PackThreads z = Make.packing(8, 16, "aaaaaaaa");
        z.plant(0, 1, 1, true);
        z.begin(1);
        z.run(400);
        Due.is("they have a step 1", z.told(8), 2);
    }

    private static void failureGivesMemoryBack() {
        Due.sentence(6, "MEMORY is given back, it is FREE, and the BLOCK is to be done again");
        PackThreads x = blocksOfFour(2, 2);
        x.plant(0, 1, 1, false);
        x.begin(2);
        Due.turns("take, take, step", x, 1, 0, 1, 0);
        Due.is("8 cells", x.told(3), 56);
        Due.turns("fail", x, 1, 0);
        Due.is("4 are back", x.told(3), 60);
        Due.thread("free", x, 0, FREE, NONE, NONE, 0, 0);
        Due.is("to be done again", x.told(10), 1);
    }

    private static void failureGivesTheLineMemory() {
        Due.sentence(12, "MEMORY that is given back goes to those WAITING");
        PackThreads x = Make.apart(32, 32, 2, 160);
        x.plant(0, 0, 3, false);
        x.begin(3);
        Due.turns("one works, two wait", x, 1, 0, 2, 1);
        Due.turns("fail", x, 1, 0);
        Due.thread("the first in line is at work", x, 2, WORK, 1, 0, 0, 0);
        Due.told("one waits", x, 5, 0, 0, 0, 1, 0, NONE, 0, 1, 4, 1);
        Due.is("the second is first", x.waiting(0), 1);
        Due.is("no third", x.waiting(1), NONE);
    }

    private static void lastOfThese() {
        Due.sentence(6, "last of these");
        PackThreads x = blocksOfFour(8, 3);
        x.plant(0, 1, 1, false);
        x.plant(1, 0, 1, false);
        x.plant(2, 0, 1, false);
        x.begin(3);
        Due.turns("take", x, 1, 0, 1, 2);
        Due.turns("1, 2, then 0 fails", x, 1, 1, 2, 0, 0);
        Due.is("three", x.told(10), 3);
        int[] order = {1, 2, 0};
        for (int k = 0; k < order.length; k++) {
            Due.turns("take", x, 1, 0);
            Due.is("as number " + k, x.thread(0, 1), order[k]);
            Due.is("so many are left", x.told(10), 2 - k);
            Due.steps("made", x, 0, 4);
        }
        Due.is("all are joined", x.told(1), 3);
    }

    private static void failedBefore() {
        Due.sentence(6, "but if it failed before, THE STREAM has STOPPED.");
        PackThreads x = blocksOfFour(2, 3);
        x.plant(1, 1, 6, true);
        x.begin(2);
        Due.steps("block 0 is taken and made", x, 0, 5);
        Due.steps("take, step, fail", x, 0, 3);
        Due.told("failed", x, 3, 1, 6, 64, 0, 0, NONE, 0, 1, 8, 1);
        Due.steps("another: take, step", x, 1, 2);
        Due.told("done again", x, 3, 1, 6, 60, 0, 0, NONE, 0, 1, 10, 0);
        Due.steps("fail", x, 1, 1);
        Due.told("stopped, its memory is back", x, 3, 1, 6, 64, 0, 0, 1, 6, 2, 11, 0);
        Due.thread("free", x, 1, FREE, NONE, NONE, 0, 0);
        Due.is("block 2 is never taken", x.run(400), 2);
        Due.is("what is joined stays", x.told(1), 1);
    }

    private static void oneIsDoneAgain() {
        Due.sentence(6, "Else if a BLOCK is done again: passed over.");
        PackThreads x = blocksOfFour(2, 4);
        x.plant(0, 0, 1, false);
        x.plant(1, 0, 1, false);
        x.begin(4);
        Due.turns("take, take, fail, fail", x, 1, 0, 1, 0, 1);
        Due.turns("0 is done again", x, 1, 2);
        Due.thread("0 is done again", x, 2, WORK, 0, 0, 0, 0);
        Due.turns("neither 1 nor 2 is taken beside it", x, 0, 0, 1, 3);
        Due.is("they did nothing", x.told(9), 5);
        x.interrupt(3);
        Due.turns("an interrupted one ends before that", x, 1, 3);
        Due.thread("ended", x, 3, ENDED, NONE, NONE, 0, 1);
        Due.steps("up to its last step", x, 2, 3);
        Due.turns("still passed over", x, 0, 0);
        Due.steps("its last step", x, 2, 1);
        Due.turns("then 1 is done again", x, 1, 0);
        Due.thread("1 is done again", x, 0, WORK, 1, 0, 0, 0);
        Due.turns("not 2 beside it, with none to be done again", x, 0, 1);
        Due.is("none to be done again", x.told(10), 0);
    }

    private static void oneDoneAgainIsHeld() {
        Due.sentence(6, "a BLOCK is done again");
        // While its pack is held it is made: else block 0 could never be done again.
        PackThreads x = blocksOfFour(1, 4);
        x.plant(1, 0, 1, false);
        x.plant(0, 1, 1, false);
        x.begin(3);
        Due.turns("take", x, 1, 0, 1, 2);
        Due.steps("block 2 fills the row", x, 2, 4);
        Due.turns("1 fails, then 0", x, 1, 1, 0, 0);
        Due.steps("1 is done again", x, 1, 5);
        Due.thread("and held", x, 1, HOLDING, 1, NONE, 1, 0);
        Due.turns("0 is done again", x, 1, 0);
        Due.thread("0 is done again", x, 0, WORK, 0, 0, 0, 0);
        Due.is("the rest", x.run(400), 13);
        Due.is("all are joined", x.told(1), 4);
    }

    private static void firstOfThese() {
        Due.sentence(6, "Else if BLOCKS are to be done again: the first of these is taken");
        PackThreads x = blocksOfFour(8, 5);
        x.plant(1, 0, 1, false);
        x.plant(2, 0, 1, false);
        x.begin(3);
        Due.turns("take, 2 and 1 fail", x, 1, 0, 1, 2, 2, 1);
        Due.steps("block 0 is made", x, 0, 4);
        Due.turns("the one that failed first", x, 1, 0);
        Due.thread("block 2, not 1 and not 3", x, 0, WORK, 2, 0, 1, 0);
        Due.is("one is left", x.told(10), 1);
        Due.steps("it is made", x, 0, 4);
        Due.turns("then the other one", x, 1, 0);
        Due.thread("block 1, not 3", x, 0, WORK, 1, 0, 2, 0);
        Due.is("none is left", x.told(10), 0);
    }

    private static void otherAtWork() {
        Due.sentence(6, "if no other THREAD is at WORK (else passed over).");
        PackThreads x = blocksOfFour(1, 4);
        x.plant(0, 0, 1, false);
        x.begin(3);
        Due.turns("take, and 0 fails", x, 1, 0, 1, 2, 0);
        Due.turns("two are at work", x, 0, 0);
        Due.steps("block 1 is made", x, 1, 4);
        Due.turns("one is at work", x, 0, 0, 1);
        Due.thread("passed over", x, 1, FREE, NONE, NONE, 1, 0);
        Due.steps("block 2 is made", x, 2, 4);
        Due.thread("it is held", x, 2, HOLDING, 2, NONE, 1, 0);
        Due.turns("one that holds is not at work", x, 1, 1);
        Due.thread("0 is done again", x, 1, WORK, 0, 0, 1, 0);
        for (int number = 0; number < 6; number++) {
            PackThreads y = blocksOfFour(8, 3);
            y.plant(1, 0, 1, false);
            y.begin(6);
            int other = number == 0 ? 5 : number - 1;
            Due.turns("take, take, and 1 fails", y, 1, number, other, other);
            Due.turns("thread " + number + " is at work", y, 0, other);
            Due.steps("block 0 is made", y, number, 4);
            Due.turns("none is at work", y, 1, number);
            Due.thread("1 is done again", y, number, WORK, 1, 0, 1, 0);
            Due.turns("thread " + number + " does it again", y, 0, other);
        }
    }

    private static void takenBeforeNewOnes() {
        Due.sentence(6, "Else the least BLOCK that never was taken is taken");
        PackThreads x = blocksOfFour(8, 3);
        x.plant(0, 0, 1, false);
        x.begin(1);
        Due.steps("take and fail", x, 0, 2);
        Due.turns("take", x, 1, 0);
        Due.is("block 0 before block 1", x.thread(0, 1), 0);
        Due.steps("it is made", x, 0, 4);
        Due.turns("take", x, 1, 0);
        Due.is("block 1, never block 0 again", x.thread(0, 1), 1);
    }

    private static void noneBesideOneDoneAgain() {
        Due.sentence(6, "(While a BLOCK is done again no other THREAD is at WORK, nor WAITING: "
                + "so none is when THE STREAM STOPS.)");
        PackThreads x = Make.apart(32, 32, 1, 128);
        x.plant(0, 0, 2, true);
        x.begin(4);
        Due.turns("one works, two wait", x, 1, 0, 1, 2);
        Due.turns("fail", x, 1, 0);
        Due.turns("one is at work: no block is taken", x, 0, 0, 3);
        Due.steps("block 1 is made", x, 1, 32);
        Due.turns("one is at work still, behind the line", x, 0, 0, 1, 3);
        Due.steps("block 2 is made", x, 2, 32);
        Due.thread("it is held", x, 2, HOLDING, 2, NONE, 1, 0);
        Due.told("none works, none waits", x, 4, 0, 0, 32, 0, 1, NONE, 0, 1, 68, 1);
        Due.turns("0 is done again", x, 1, 3);
        Due.turns("none takes block 3 beside it", x, 0, 0, 1, 2);
        Due.told("none waits", x, 4, 0, 0, 0, 0, 1, NONE, 0, 1, 69, 0);
        Due.turns("fail", x, 1, 3);
        Due.told("stopped", x, 4, 0, 0, 32, 0, 1, 0, 2, 2, 70, 0);
        int[] states = {FREE, FREE, HOLDING, FREE};
        for (int number = 0; number < states.length; number++) {
            Due.is("thread " + number, x.thread(number, 0), states[number]);
        }
    }

    private static void doneAgainFailsOnlyForTwice() {
        Due.sentence(6, "A BLOCK that is done again (taken behind a failure) "
                + "FAILS only by what is PLANTED for twice.");
        PackThreads x = blocksOfFour(2, 2);
        x.plant(0, 2, 1, false);
        x.plant(1, 2, 3, true);
        x.begin(1);
        Due.steps("take, 2 steps, fail", x, 0, 4);
        Due.steps("take, 4 steps: no failure", x, 0, 5);
        Due.told("block 0 is joined", x, 2, 1, 6, 64, 0, 0, NONE, 0, 1);
        Due.steps("take, 2 steps, fail", x, 0, 4);
        Due.steps("take, 2 steps, fail", x, 0, 4);
        Due.told("stopped", x, 2, 1, 6, 64, 0, 0, 1, 3, 3);
    }

    private static void kinds() {
        Due.sentence(11, "FAILURES, by what the machine refuses: "
                + "1 NULL, 2 INDEX, 3 SIZE, 4 CAST, 5 ZERO, 6 STORE.");
        for (int kind = 1; kind <= 6; kind++) {
            PackThreads x = blocksOfFour(2, 2);
            x.plant(1, 0, kind, true);
            x.begin(1);
            Due.is("kind " + kind, x.run(400), 5 + 4 + 1);
            Due.told("kind " + kind, x, 2, 1, 6, 64, 0, 0, 1, kind, 2, 10, 0);
        }
    }

    private static void holdingWhenStopped() {
        Due.sentence(6, "HOLDING: if THE STREAM has STOPPED, it ENDS.");
        PackThreads x = blocksOfFour(1, 4);
        x.plant(0, 0, 1, true);
        x.begin(4);
        Due.turns("take", x, 1, 0, 1, 2, 3);
        Due.steps("block 1 fills the row", x, 1, 4);
        Due.steps("block 2 is held", x, 2, 4);
        Due.steps("block 3 is held", x, 3, 4);
        Due.turns("fail, take again", x, 1, 0, 0);
        Due.turns("not stopped yet: passed over", x, 0, 2, 3);
        Due.turns("fail", x, 1, 0);
        Due.thread("not before its turn", x, 2, HOLDING, 2, NONE, 1, 0);
        Due.turns("each ends at its turn", x, 1, 2, 3);
        Due.thread("ended", x, 2, ENDED, NONE, NONE, 1, 1);
        Due.thread("ended", x, 3, ENDED, NONE, NONE, 1, 1);
        Due.told("the row has what it had", x, 4, 0, 0, 64, 0, 1, 0, 1, 2, 21, 0);
    }
}
