/** The edges of turns, memory and the row: promises 3, 5, 6, 9, 11, 12, sentence by sentence. */
public final class ThreadEdgeTest {
    private static final int NONE = PackThreads.NONE, BAD = PackThreads.BAD;
    private static final int FREE = 0, WAITING = 1, WORK = 2, HOLDING = 3, ENDED = 4;

    public static void main(String[] args) {
        threadNumbers();
        states();
        cellsRange();
        cellsAtItsEnds();
        needOfABlock();
        needWhileAtWork();
        rowKeepsPacks();
        rowRange();
        rowAtFirst();
        rowOfOne();
        rowOfEight();
        rowUntilJoined();
        freeAndInterrupted();
        freeAndStopped();
        freeAndAllJoined();
        freeAndNoBlocks();
        leastBlock();
        noBlockIsLeft();
        enoughLeft();
        notEnoughLeft();
        noneWaiting();
        givenMemory();
        lastInLine();
        waitingIsPassedOver();
        oneToken();
        lastToken();
        nextToBeJoined();
        fewerThanR();
        nextBlocksAreJoined();
        isOrStaysHolding();
        firstInLineFirst();
        enoughForThatOne();
        atWorkThen();
        Due.finish();
    }

    private static void threadNumbers() {
        Due.sentence(5, "THREADS 0 .. n - 1 (1 to 6) have TURNS.");
        PackThreads x = Make.apart(4, 64, 2, 8);
        Due.is("begin(0)", x.begin(0), BAD);
        Due.is("begin(7)", x.begin(7), BAD);
        Due.is("begin(1)", x.begin(1), 2);
        Due.is("turn(-1) of 1", x.turn(-1), BAD);
        Due.is("turn(1) of 1", x.turn(1), BAD);
        Due.is("turn(0) of 1", x.turn(0), 1);
        for (int n = 2; n <= 6; n++) {
            PackThreads y = Make.apart(4, 64, 2, 8);
            Due.is("begin(" + n + ")", y.begin(n), 2);
            Due.is("turn(" + n + ") of " + n, y.turn(n), BAD);
            Due.is("turn(-1) of " + n, y.turn(-1), BAD);
            Due.is("turn(" + (n - 1) + ") of " + n, y.turn(n - 1), 1);
            Due.is("turn(0) of " + n, y.turn(0), 1);
        }
    }

    private static void states() {
        Due.sentence(9, "One is 0 FREE, 1 WAITING for MEMORY, 2 at WORK on a BLOCK, "
                + "3 HOLDING a PACK, 4 ENDED.");
        PackThreads x = Make.apart(4, 32, 1, 12);
        x.begin(4);
        x.interrupt(3);
        Due.turns("take, take, take, end", x, 1, 0, 1, 2, 3);
        Due.steps("block 1 is made", x, 1, 4);
        Due.steps("block 2 is made", x, 2, 4);
        Due.is("at work", x.thread(0, 0), WORK);
        Due.is("free", x.thread(1, 0), FREE);
        Due.is("holding", x.thread(2, 0), HOLDING);
        Due.is("ended", x.thread(3, 0), ENDED);
        PackThreads y = Make.apart(32, 32, 1, 64);
        y.begin(2);
        Due.turns("work and line", y, 1, 0, 1);
        Due.is("waiting", y.thread(1, 0), WAITING);
    }

    private static void cellsRange() {
        Due.sentence(3, "MEMORY has CELLS (32 to 200; 64 at first)");
        PackThreads x = new PackThreads();
        Due.is("set(2, 31)", x.set(2, 31), BAD);
        Due.is("set(2, 201)", x.set(2, 201), BAD);
        Due.is("set(2, 32)", x.set(2, 32), 64);
        Due.is("set(2, 200)", x.set(2, 200), 32);
        Due.is("set(2, 199)", x.set(2, 199), 200);
        Due.is("set(2, 33)", x.set(2, 33), 199);
    }

    private static void cellsAtItsEnds() {
        Due.sentence(11, "CELLS (32 to 200; 64 at first)");
        PackThreads first = Make.packing(32, 0, Make.rising(0, 95));
        first.begin(3);
        Due.is("64 at first", first.told(3), 64);
        Due.is("three are taken", first.run(3), 3);
        Due.told("two of 32 fill them", first, 3, 0, 0, 0, 1);
        PackThreads least = Make.apart(32, 32, 2, 96);
        least.begin(3);
        Due.is("the least", least.told(3), 32);
        Due.is("three are taken", least.run(3), 3);
        Due.told("one of 32 fills them", least, 3, 0, 0, 0, 2);
        PackThreads most = Make.apart(32, 200, 2, 160);
        most.begin(6);
        Due.is("the most", most.told(3), 200);
        Due.is("five are taken", most.run(6), 5);
        Due.told("all are at work", most, 5, 0, 0, 40, 0);
    }

    private static void needOfABlock() {
        Due.sentence(11, "a BLOCK needs as many as it has bytes");
        PackThreads x = Make.apart(8, 64, 2, 17);
        x.begin(3);
        Due.turns("block 0", x, 1, 0);
        Due.is("8 bytes", x.told(3), 56);
        Due.turns("block 1", x, 1, 1);
        Due.is("8 bytes", x.told(3), 48);
        Due.turns("block 2", x, 1, 2);
        Due.is("1 byte", x.told(3), 47);
        PackThreads copied = Make.packing(8, 16, "aaaaaaaa");
        copied.begin(1);
        Due.turns("take", copied, 1, 0);
        Due.is("8 bytes in 2 tokens", copied.told(3), 56);
    }

    private static void needWhileAtWork() {
        Due.sentence(11, "while a THREAD is at WORK on it.");
        PackThreads x = Make.apart(4, 32, 1, 12);
        x.begin(3);
        Due.is("free", x.told(3), 32);
        Due.turns("take", x, 1, 0, 1, 2);
        Due.is("at work", x.told(3), 20);
        Due.steps("at block 1", x, 1, 3);
        Due.is("at its last step", x.told(3), 20);
        Due.steps("block 1 is in the row", x, 1, 1);
        Due.is("in the row", x.told(3), 24);
        Due.steps("block 2 is held", x, 2, 4);
        Due.thread("held", x, 2, HOLDING);
        Due.is("holding", x.told(3), 28);
        PackThreads y = Make.apart(32, 40, 1, 64);
        y.begin(2);
        Due.turns("work and line", y, 1, 0, 1);
        Due.is("waiting", y.told(3), 8);
    }

    private static void rowKeepsPacks() {
        Due.sentence(11, "THE ROW keeps PACKS that are made");
        PackThreads x = Make.apart(4, 64, 2, 12);
        x.begin(3);
        Due.is("nothing yet", x.told(5), 0);
        Due.turns("take", x, 1, 0, 1, 2);
        Due.steps("block 2 is made but for a byte", x, 2, 3);
        Due.is("not yet", x.told(5), 0);
        Due.steps("block 2 is made", x, 2, 1);
        Due.is("block 2", x.told(5), 1);
        Due.steps("block 1 is made", x, 1, 4);
        Due.is("blocks 1 and 2", x.told(5), 2);
        Due.is("none is joined", x.told(1), 0);
    }

    private static void rowRange() {
        Due.sentence(3, "R (1 to 8; 2 at first)");
        PackThreads x = new PackThreads();
        Due.is("set(3, 0)", x.set(3, 0), BAD);
        Due.is("set(3, 9)", x.set(3, 9), BAD);
        Due.is("set(3, 1)", x.set(3, 1), 2);
        Due.is("set(3, 8)", x.set(3, 8), 1);
        Due.is("set(3, 7)", x.set(3, 7), 8);
        Due.is("set(3, 2)", x.set(3, 2), 7);
    }

    /** Thread 0 is at work on block 0, and thread 1 makes all that the row has room for, and one more. */
    private static void fillsTheRow(PackThreads x, int rowLimit) {
        x.begin(2);
        Due.turns("block 0 is taken", x, 1, 0);
        for (int k = 1; k <= rowLimit; k++) {
            Due.steps("block " + k + " is taken and made", x, 1, 5);
            Due.is("it is in the row", x.told(5), k);
            Due.is("its thread is free", x.thread(1, 0), FREE);
        }
        Due.steps("one more", x, 1, 5);
        Due.is("the row is full", x.told(5), rowLimit);
        Due.thread("one more", x, 1, HOLDING, rowLimit + 1, NONE, rowLimit + 1);
    }

    private static void rowAtFirst() {
        Due.sentence(11, "2 at first");
        PackThreads x = Make.packing(4, 0, Make.rising(0, 39));
        fillsTheRow(x, 2);
    }

    private static void rowOfOne() {
        Due.sentence(11, "R (1 to 8; 2 at first) at most");
        fillsTheRow(Make.apart(4, 64, 1, 40), 1);
    }

    private static void rowOfEight() {
        Due.sentence(11, "R (1 to 8; 2 at first) at most");
        PackThreads x = Make.apart(4, 64, 8, 40);
        fillsTheRow(x, 8);
        Due.steps("block 0 is made", x, 0, 4);
        Due.told("it and the whole row are joined", x, 10, 9, 54, 64, 0, 0);
        Due.turns("block 9 is laid", x, 1, 1);
        Due.told("all are joined", x, 10, 10, 60, 64, 0, 0);
    }

    private static void rowUntilJoined() {
        Due.sentence(11, "until all BLOCKS before them are JOINED.");
        PackThreads x = Make.apart(4, 64, 3, 16);
        x.begin(4);
        Due.turns("take", x, 1, 0, 1, 2, 3);
        Due.steps("block 3 is made", x, 3, 4);
        Due.steps("block 1 is made", x, 1, 4);
        Due.told("blocks 1 and 3 wait", x, 4, 0, 0, 56, 0, 2);
        Due.steps("block 0 is made", x, 0, 4);
        Due.told("block 3 waits for block 2", x, 4, 2, 12, 60, 0, 1);
        Due.steps("block 2 is made", x, 2, 4);
        Due.told("none waits", x, 4, 4, 24, 64, 0, 0);
    }

    private static void freeAndInterrupted() {
        Due.sentence(6, "A TURN of one that is FREE: if it was INTERRUPTED");
        PackThreads x = Make.apart(4, 64, 2, 8);
        x.begin(2);
        x.interrupt(1);
        Due.thread("not before its turn", x, 1, FREE, NONE, NONE, 0, 0);
        Due.turns("it ends", x, 1, 1);
        Due.thread("it took no block", x, 1, ENDED, NONE, NONE, 0, 1);
        Due.turns("the other takes block 0", x, 1, 0);
        Due.thread("the other takes block 0", x, 0, WORK, 0, 0, 0, 0);
        x.interrupt(0);
        Due.steps("its block is made all the same", x, 0, 4);
        Due.thread("between blocks", x, 0, FREE, NONE, NONE, 1, 0);
        Due.turns("it ends", x, 1, 0);
        Due.thread("it took no other block", x, 0, ENDED, NONE, NONE, 1, 1);
        Due.is("block 1 is not joined", x.told(1), 1);
    }

    private static void freeAndStopped() {
        Due.sentence(6, "INTERRUPTED, THE STREAM has STOPPED");
        PackThreads x = Make.apart(4, 64, 2, 16);
        x.plant(0, 0, 1, true);
        x.begin(2);
        Due.turns("take, fail, take again", x, 1, 0, 0, 0);
        Due.turns("not stopped yet: passed over", x, 0, 1);
        Due.turns("fail", x, 1, 0);
        Due.is("stopped", x.told(6), 0);
        Due.turns("each ends at its turn", x, 1, 1, 0);
        Due.thread("ended", x, 0, ENDED, NONE, NONE, 0, 1);
        Due.thread("ended", x, 1, ENDED, NONE, NONE, 0, 1);
    }

    private static void freeAndAllJoined() {
        Due.sentence(6, "or all BLOCKS are JOINED, it ENDS.");
        PackThreads x = Make.apart(4, 64, 2, 8);
        x.begin(2);
        Due.steps("block 0 is taken and made", x, 0, 5);
        Due.steps("block 1 is taken, made but for a byte", x, 0, 4);
        Due.turns("one is not joined: passed over", x, 0, 1);
        Due.steps("block 1 is made", x, 0, 1);
        Due.thread("not before its turn", x, 1, FREE, NONE, NONE, 0, 0);
        Due.turns("each ends at its turn", x, 1, 1, 0);
        Due.thread("ended", x, 0, ENDED, NONE, NONE, 2, 1);
        Due.thread("ended", x, 1, ENDED, NONE, NONE, 0, 1);
    }

    private static void freeAndNoBlocks() {
        Due.sentence(6, "all BLOCKS are JOINED, it ENDS");
        PackThreads x = new PackThreads();
        x.begin(2);
        Due.turns("without a text each ends at once", x, 1, 1, 0);
        Due.thread("ended", x, 1, ENDED, NONE, NONE, 0, 1);
    }

    private static void leastBlock() {
        Due.sentence(6, "Else the least BLOCK that never was taken is taken");
        PackThreads x = Make.apart(4, 64, 2, 12);
        x.begin(3);
        Due.turns("take", x, 1, 2, 0, 1);
        Due.is("block 0", x.thread(2, 1), 0);
        Due.is("block 1", x.thread(0, 1), 1);
        Due.is("block 2", x.thread(1, 1), 2);
        PackThreads y = Make.apart(4, 64, 2, 12);
        y.begin(2);
        Due.turns("take", y, 1, 0, 1);
        Due.steps("block 1 is made", y, 1, 4);
        Due.turns("take", y, 1, 1);
        Due.is("block 2, not 0 and 1", y.thread(1, 1), 2);
    }

    private static void noBlockIsLeft() {
        Due.sentence(6, "with none it is passed over.");
        PackThreads x = Make.apart(4, 64, 2, 8);
        x.begin(3);
        Due.turns("both are taken", x, 1, 0, 1);
        Due.turns("none is left", x, 0, 2, 2);
        Due.thread("passed over", x, 2, FREE, NONE, NONE, 0, 0);
        Due.is("it did nothing", x.told(9), 2);
    }

    private static void enoughLeft() {
        Due.sentence(6, "To take one: MEMORY is asked for: with enough left");
        PackThreads x = Make.apart(16, 48, 2, 64);
        x.begin(3);
        Due.turns("take", x, 1, 0, 1);
        Due.is("16 are left", x.told(3), 16);
        Due.turns("exactly enough", x, 1, 2);
        Due.thread("at work", x, 2, WORK, 2, 0, 0, 0);
        Due.told("none is left", x, 4, 0, 0, 0, 0);
    }

    private static void notEnoughLeft() {
        Due.sentence(6, "else it is WAITING");
        PackThreads x = Make.apart(16, 47, 2, 64);
        x.begin(3);
        Due.turns("take", x, 1, 0, 1);
        Due.is("15 are left", x.told(3), 15);
        Due.turns("one too few, but something is done", x, 1, 2);
        Due.thread("waiting", x, 2, WAITING, 2, NONE, 0, 0);
        Due.told("15 are left still", x, 4, 0, 0, 15, 1);
        PackThreads y = Make.apart(32, 32, 2, 33);
        y.begin(2);
        Due.turns("take", y, 1, 0, 1);
        Due.thread("1 byte, but 0 are left", y, 1, WAITING, 1, NONE, 0, 0);
    }

    private static void noneWaiting() {
        Due.sentence(6, "and none WAITING, it is given");
        // Blocks of 32, 32 and 6 bytes: the last one would fit into the 8 cells that are left.
        PackThreads x = Make.apart(32, 40, 2, 70);
        x.begin(3);
        Due.turns("work, line", x, 1, 0, 1);
        Due.turns("one waits already", x, 1, 2);
        Due.thread("so it waits too", x, 2, WAITING, 2, NONE, 0, 0);
        Due.told("8 are left", x, 3, 0, 0, 8, 2);
        PackThreads y = Make.apart(32, 40, 2, 38);
        y.begin(2);
        Due.turns("none waits", y, 1, 0, 1);
        Due.thread("so it is at work", y, 1, WORK, 1, 0, 0, 0);
    }

    private static void givenMemory() {
        Due.sentence(6, "and the THREAD is at WORK on it, with STEP 0");
        PackThreads x = Make.apart(4, 64, 2, 8);
        x.begin(1);
        Due.turns("take", x, 1, 0);
        Due.thread("block 0", x, 0, WORK, 0, 0, 0, 0);
        Due.steps("block 0", x, 0, 4);
        Due.turns("take", x, 1, 0);
        Due.thread("block 1", x, 0, WORK, 1, 0, 1, 0);
    }

    private static void lastInLine() {
        Due.sentence(12, "last in line.");
        PackThreads x = Make.apart(32, 32, 2, 160);
        x.begin(5);
        Due.turns("one works, four wait", x, 1, 3, 4, 0, 2, 1);
        int[] line = {4, 0, 2, 1, NONE};
        for (int k = 0; k < line.length; k++) {
            Due.is("waiting(" + k + ")", x.waiting(k), line[k]);
        }
        Due.steps("block 0 is made", x, 3, 32);
        Due.turns("passed over in line", x, 0, 0, 2, 1);
        int[] then = {0, 2, 1, NONE, NONE};
        for (int k = 0; k < then.length; k++) {
            Due.is("then waiting(" + k + ")", x.waiting(k), then[k]);
        }
    }

    private static void waitingIsPassedOver() {
        Due.sentence(6, "WAITING: passed over.");
        PackThreads x = Make.apart(32, 32, 2, 96);
        x.begin(3);
        Due.turns("one works, two wait", x, 1, 0, 1, 2);
        x.interrupt(2);
        Due.turns("passed over", x, 0, 1, 2, 1);
        Due.thread("as it was", x, 1, WAITING, 1, NONE, 0, 0);
        Due.thread("interrupted, as it was", x, 2, WAITING, 2, NONE, 0, 0);
        Due.told("nothing was done", x, 3, 0, 0, 0, 2, 0, NONE, 0, 0, 3, 0);
        Due.is("first in line", x.waiting(0), 1);
    }

    private static void oneToken() {
        Due.sentence(6, "Else one TOKEN of the BLOCK is made (STEP is one more)");
        PackThreads x = Make.packing(16, 16, "abcabcxyabcabcz");
        x.begin(1);
        Due.turns("take", x, 1, 0);
        // a, b, c, a copy of 3, x, y, a copy of 6; z is the last one.
        for (int step = 0; step < 7; step++) {
            Due.is("step", x.thread(0, 2), step);
            Due.turns("a token", x, 1, 0);
        }
        Due.thread("before the last one", x, 0, WORK, 0, 7, 0, 0);
        Due.turns("the last one", x, 1, 0);
        Due.thread("made", x, 0, FREE, NONE, NONE, 1, 0);
    }

    private static void lastToken() {
        Due.sentence(6, "with the last one MEMORY is given back, "
                + "and the PACK is laid into THE ROW, as HOLDING tells.");
        PackThreads x = Make.packing(4, 16, "a");
        x.begin(1);
        Due.turns("take", x, 1, 0);
        Due.is("1 cell", x.told(3), 63);
        Due.turns("the first token is the last", x, 1, 0);
        Due.told("joined", x, 1, 1, 3, 64, 0, 0);
        PackThreads y = Make.apart(4, 64, 1, 12);
        y.begin(3);
        Due.turns("take", y, 1, 0, 1, 2);
        Due.steps("block 1", y, 1, 4);
        Due.told("laid into the row", y, 3, 0, 0, 56, 0, 1);
        Due.steps("block 2", y, 2, 4);
        Due.told("held, its memory is back", y, 3, 0, 0, 60, 0, 1);
        Due.thread("held", y, 2, HOLDING, 2, NONE, 1, 0);
    }

    /** Blocks 3 and 2 fill a row of two; 1 is held by thread 1, and 0 is at work. */
    private static PackThreads fullRow() {
        PackThreads x = Make.apart(4, 64, 2, 20);
        x.begin(5);
        Due.turns("take", x, 1, 0, 1, 2, 3, 4);
        Due.steps("block 3 is made", x, 3, 4);
        Due.steps("block 2 is made", x, 2, 4);
        Due.steps("block 1 is made", x, 1, 4);
        Due.is("two are in the row", x.told(5), 2);
        Due.thread("block 1 is held", x, 1, HOLDING, 1, NONE, 1, 0);
        return x;
    }

    private static void nextToBeJoined() {
        Due.sentence(6, "Else if its BLOCK is the next one to be JOINED");
        PackThreads x = fullRow();
        Due.turns("block 1 is not the next one", x, 0, 1);
        Due.steps("block 0 is made, and joined past a full row", x, 0, 4);
        Due.told("block 0", x, 5, 1, 6, 60, 0, 2);
        Due.turns("block 1 is joined past a full row", x, 1, 1);
        Due.told("and those in the row with it", x, 5, 4, 24, 60, 0, 0);
        Due.thread("free", x, 1, FREE, NONE, NONE, 1, 0);
    }

    private static void fewerThanR() {
        Due.sentence(6, "or fewer than R PACKS are in THE ROW, it comes there, and the THREAD is FREE");
        PackThreads x = Make.apart(4, 64, 2, 28);
        x.begin(6);
        Due.turns("take", x, 1, 0, 1, 2, 3, 4, 5);
        Due.steps("block 1 is made", x, 1, 4);
        Due.thread("0 of 2: free", x, 1, FREE, NONE, NONE, 1, 0);
        Due.steps("block 4 is made", x, 4, 4);
        Due.thread("1 of 2: free", x, 4, FREE, NONE, NONE, 1, 0);
        Due.steps("block 5 is made", x, 5, 4);
        Due.thread("2 of 2: holding", x, 5, HOLDING, 5, NONE, 1, 0);
        Due.steps("block 3 is made", x, 3, 4);
        Due.thread("2 of 2: holding", x, 3, HOLDING, 3, NONE, 1, 0);
        Due.steps("block 0 is made, 1 leaves the row", x, 0, 4);
        Due.told("4 is in the row", x, 7, 2, 12, 60, 0, 1);
        Due.turns("1 of 2: 5 comes there, not the next one", x, 1, 5);
        Due.told("4 and 5 are in the row", x, 7, 2, 12, 60, 0, 2);
        Due.thread("free", x, 5, FREE, NONE, NONE, 1, 0);
        Due.turns("2 of 2: 3 stays", x, 0, 3);
    }

    private static void nextBlocksAreJoined() {
        Due.sentence(6, "the next BLOCKS, as long as they are in THE ROW, are JOINED (they leave it).");
        PackThreads x = Make.apart(4, 64, 3, 24);
        x.begin(6);
        Due.turns("take", x, 1, 0, 1, 2, 3, 4, 5);
        Due.steps("block 1", x, 1, 4);
        Due.steps("block 2", x, 2, 4);
        Due.steps("block 4", x, 4, 4);
        Due.told("1, 2 and 4", x, 6, 0, 0, 52, 0, 3);
        Due.steps("block 0", x, 0, 4);
        Due.told("0, 1 and 2, not 4", x, 6, 3, 18, 56, 0, 1);
        Due.steps("block 5", x, 5, 4);
        Due.told("4 and 5", x, 6, 3, 18, 60, 0, 2);
        Due.steps("block 3", x, 3, 4);
        Due.told("up to the last", x, 6, 6, 36, 64, 0, 0);
    }

    private static void isOrStaysHolding() {
        Due.sentence(6, "Else it is, or stays, HOLDING (passed over, if it was).");
        PackThreads x = fullRow();
        Due.is("its last token did something", x.told(9), 5 + 12);
        x.interrupt(1);
        Due.turns("it stays, interrupted too", x, 0, 1, 1);
        Due.thread("holding", x, 1, HOLDING, 1, NONE, 1, 0);
        Due.told("nothing was done", x, 5, 0, 0, 56, 0, 2, NONE, 0, 0, 17, 0);
    }

    private static void firstInLineFirst() {
        Due.sentence(12, "MEMORY that is given back goes to those WAITING, the first in line first");
        PackThreads x = Make.apart(16, 40, 8, 80);
        x.begin(5);
        Due.turns("two work, three wait", x, 1, 0, 1, 4, 2, 3);
        Due.steps("block 1 is made", x, 1, 16);
        Due.is("the first is at work", x.thread(4, 0), WORK);
        Due.is("the second waits", x.thread(2, 0), WAITING);
        Due.is("the third waits", x.thread(3, 0), WAITING);
        Due.is("the second is first", x.waiting(0), 2);
        Due.steps("block 0 is made", x, 0, 16);
        Due.is("the second is at work", x.thread(2, 0), WORK);
        Due.is("the third waits", x.thread(3, 0), WAITING);
        Due.steps("block 2 is made", x, 4, 16);
        Due.is("the third is at work", x.thread(3, 0), WORK);
        Due.is("none waits", x.waiting(0), NONE);
    }

    /** The last block has so many bytes; one of 32 works with 40 cells, one of 32 waits before it. */
    private static PackThreads smallOneWaits(int bytes) {
        PackThreads x = Make.apart(32, 40, 2, 64 + bytes);
        x.begin(3);
        Due.turns("work, line, line", x, 1, 0, 1, 2);
        Due.steps("block 0 is made", x, 0, 32);
        Due.thread("the first in line is at work", x, 1, WORK, 1, 0);
        return x;
    }

    private static void enoughForThatOne() {
        Due.sentence(12, "as long as there is enough for that one");
        PackThreads x = smallOneWaits(8);
        Due.thread("exactly enough for the second", x, 2, WORK, 2, 0);
        Due.told("none waits, none is left", x, 3, 1, 34, 0, 0);
        PackThreads y = smallOneWaits(9);
        Due.thread("one too few for the second", y, 2, WAITING, 2, NONE);
        Due.told("one waits, 8 are left", y, 3, 1, 34, 8, 1);
        Due.is("it is first in line", y.waiting(0), 2);
    }

    private static void atWorkThen() {
        Due.sentence(9, "they are at WORK then, with STEP 0.");
        PackThreads x = Make.apart(32, 32, 2, 64);
        x.begin(2);
        Due.turns("work and line", x, 1, 1, 0);
        Due.steps("block 0 is made", x, 1, 32);
        Due.thread("at work without a turn", x, 0, WORK, 1, 0, 0, 0);
        Due.is("that is no turn", x.told(9), 34);
        Due.turns("its first step", x, 1, 0);
        Due.thread("its first step", x, 0, WORK, 1, 1, 0, 0);
    }
}
