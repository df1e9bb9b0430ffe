/** The edges of told, waiting and close: promises 11, 12, 14, sentence by sentence. */
public final class TellEdgeTest {
    private static final int NONE = PackThreads.NONE, BAD = PackThreads.BAD;
    private static final int NO = PackThreads.NO;
    private static final int LEAST_INT = Integer.MIN_VALUE, MOST_INT = Integer.MAX_VALUE;
    private static final int HOLDING = 3, ENDED = 4;

    public static void main(String[] args) {
        blocks();
        joinedBlocks();
        joinedBytes();
        cellsLeft();
        howManyWait();
        packsInTheRow();
        stoppedAt();
        stoppedBy();
        failures();
        turns();
        toBeDoneAgain();
        toldBad();
        toldNo();
        waitingPlaces();
        waitingNone();
        waitingNo();
        closeAll();
        closeGivesBack();
        closeLetsNoneBegin();
        closeHowMany();
        closeNo();
        Due.finish();
    }

    private static void blocks() {
        Due.sentence(11, "0 BLOCKS");
        int[] bytes = {0, 1, 4, 5, 159, 160};
        int[] want = {0, 1, 1, 2, 40, 40};
        for (int k = 0; k < bytes.length; k++) {
            PackThreads x = Make.apart(4, 64, 2, bytes[k]);
            x.begin(1);
            Due.is(bytes[k] + " bytes", x.told(0), want[k]);
            x.run(400);
            Due.is(bytes[k] + " bytes, all joined", x.told(0), want[k]);
        }
    }

    private static void joinedBlocks() {
        Due.sentence(11, "1 BLOCKS that are JOINED");
        PackThreads x = Make.apart(4, 64, 2, 160);
        x.begin(1);
        Due.is("none", x.told(1), 0);
        Due.is("all but the last byte of block 0", x.run(4), 4);
        Due.is("none", x.told(1), 0);
        Due.is("its last byte", x.run(1), 1);
        Due.is("one", x.told(1), 1);
        x.run(400);
        Due.is("the most", x.told(1), 40);
        PackThreads y = Make.apart(4, 64, 2, 8);
        y.begin(2);
        Due.turns("block 1 comes into the row", y, 1, 0, 1, 1, 1, 1, 1);
        Due.is("in the row is not joined", y.told(1), 0);
    }

    private static void joinedBytes() {
        Due.sentence(11, "2 bytes that are JOINED");
        PackThreads x = Make.apart(4, 64, 2, 160);
        x.begin(1);
        Due.is("none", x.told(2), 0);
        x.run(5);
        Due.is("how many, 4 bytes and the end", x.told(2), 6);
        x.run(400);
        Due.is("the most", x.told(2), 240);
        PackThreads y = Make.packing(32, 16, "a".repeat(64));
        y.begin(1);
        y.run(400);
        Due.is("bytes of the packs, not of the text", y.told(2), 8);
    }

    private static void cellsLeft() {
        Due.sentence(11, "3 CELLS that are left");
        PackThreads x = Make.apart(16, 32, 2, 48);
        x.begin(3);
        Due.is("all", x.told(3), 32);
        Due.turns("take", x, 1, 0, 1);
        Due.is("none", x.told(3), 0);
        Due.turns("come into line", x, 1, 2);
        Due.is("never fewer", x.told(3), 0);
        x.run(400);
        Due.is("all", x.told(3), 32);
        PackThreads most = Make.apart(16, 200, 2, 0);
        most.begin(1);
        Due.is("the most", most.told(3), 200);
    }

    private static void howManyWait() {
        Due.sentence(11, "4 how many are WAITING");
        PackThreads x = Make.apart(32, 32, 2, 160);
        x.begin(5);
        Due.is("none", x.told(4), 0);
        Due.turns("work", x, 1, 0);
        Due.is("none", x.told(4), 0);
        for (int k = 1; k <= 4; k++) {
            Due.turns("come into line", x, 1, k);
            Due.is("in line", x.told(4), k);
        }
        Due.steps("block 0 is made", x, 0, 32);
        Due.is("one began", x.told(4), 3);
    }

    private static void packsInTheRow() {
        Due.sentence(11, "5 PACKS in THE ROW");
        PackThreads x = Make.apart(4, 64, 1, 12);
        x.begin(3);
        Due.is("none", x.told(5), 0);
        Due.turns("take", x, 1, 0, 1, 2);
        Due.steps("block 2", x, 2, 4);
        Due.is("one", x.told(5), 1);
        Due.steps("block 1 is held", x, 1, 4);
        Due.is("what is held is not there", x.told(5), 1);
        Due.steps("block 0 is joined at once", x, 0, 4);
        Due.is("block 2", x.told(5), 1);
        Due.turns("block 1 is laid", x, 1, 1);
        Due.is("none", x.told(5), 0);
    }

    private static void stoppedAt() {
        Due.sentence(11, "6 the BLOCK at which THE STREAM has STOPPED (NONE)");
        PackThreads x = Make.apart(4, 64, 2, 160);
        x.plant(0, 0, 1, false);
        x.plant(39, 0, 1, true);
        x.begin(1);
        Due.is("not stopped", x.told(6), NONE);
        x.run(2);
        Due.is("a first failure does not stop", x.told(6), NONE);
        x.run(400);
        Due.is("the last block", x.told(6), 39);
        PackThreads y = Make.apart(4, 64, 2, 8);
        y.plant(0, 0, 1, true);
        y.begin(1);
        y.run(400);
        Due.is("the first block", y.told(6), 0);
    }

    private static void stoppedBy() {
        Due.sentence(11, "7 by which KIND (0: not)");
        int[] kinds = {1, 6};
        for (int kind : kinds) {
            PackThreads x = Make.apart(4, 64, 2, 8);
            x.plant(1, 0, kind, true);
            x.begin(1);
            Due.is("not stopped", x.told(7), 0);
            x.run(7);
            Due.is("one failure", x.told(8), 1);
            Due.is("a first failure does not stop", x.told(7), 0);
            x.run(400);
            Due.is("stopped", x.told(7), kind);
            x.close();
            Due.is("closed", x.told(7), kind);
        }
    }

    private static void failures() {
        Due.sentence(11, "8 FAILURES");
        PackThreads x = Make.apart(4, 64, 2, 12);
        x.plant(0, 0, 1, false);
        x.plant(1, 3, 2, false);
        x.plant(2, 1, 3, true);
        x.begin(1);
        Due.is("none", x.told(8), 0);
        x.run(2);
        Due.is("block 0", x.told(8), 1);
        x.run(5 + 5);
        Due.is("block 1", x.told(8), 2);
        x.run(5 + 3);
        Due.is("block 2", x.told(8), 3);
        x.run(400);
        Due.is("the one that stops counts too", x.told(8), 4);
    }

    private static void turns() {
        Due.sentence(11, "9 TURNS that did something");
        PackThreads x = Make.apart(4, 64, 2, 4);
        x.begin(3);
        Due.is("none", x.told(9), 0);
        Due.turns("take", x, 1, 0);
        Due.is("by turn", x.told(9), 1);
        Due.turns("passed over", x, 0, 1);
        Due.is("not what is passed over", x.told(9), 1);
        Due.is("by run", x.run(2), 1);
        Due.is("by run", x.told(9), 2);
        x.interrupt(1);
        Due.is("interrupt is no turn", x.told(9), 2);
        Due.turns("end", x, 1, 1);
        Due.is("an end", x.told(9), 3);
        Due.is("close", x.close(), 2);
        Due.is("close is no turn", x.told(9), 3);
    }

    private static void toBeDoneAgain() {
        Due.sentence(11, "10 BLOCKS that are to be done again.");
        PackThreads x = Make.apart(4, 200, 8, 160);
        for (int block = 0; block < 6; block++) {
            x.plant(block, 0, 1, false);
        }
        x.begin(6);
        Due.is("take", x.run(6), 6);
        Due.is("none", x.told(10), 0);
        for (int k = 1; k <= 6; k++) {
            Due.is("fail", x.run(1), 1);
            Due.is("so many", x.told(10), k);
        }
        Due.is("one is taken, five are passed over", x.run(6), 1);
        Due.is("the one that is taken is not to be any more", x.told(10), 5);
    }

    private static void toldBad() {
        Due.sentence(11, "BAD; NO.");
        PackThreads x = Make.apart(4, 64, 2, 4);
        PackThreads fresh = new PackThreads();
        x.begin(1);
        int[] wrong = {-1, 11, LEAST_INT, MOST_INT};
        for (int what : wrong) {
            Due.is("told(" + what + ")", x.told(what), BAD);
            Due.is("BAD before NO: told(" + what + ")", fresh.told(what), BAD);
        }
        Due.is("told(0)", x.told(0), 1);
        Due.is("told(10)", x.told(10), 0);
    }

    private static void toldNo() {
        Due.sentence(11, "NO.");
        PackThreads x = Make.apart(4, 64, 2, 4);
        for (int what = 0; what <= 10; what++) {
            Due.is("told(" + what + ")", x.told(what), NO);
        }
        x.begin(1);
        x.clear();
        Due.is("cleared: told(0)", x.told(0), NO);
    }

    private static PackThreads fiveInLine() {
        PackThreads x = Make.apart(31, 32, 2, 160);
        x.begin(6);
        Due.turns("one works, five wait", x, 1, 2, 5, 0, 4, 1, 3);
        return x;
    }

    private static void waitingPlaces() {
        Due.sentence(12, "The THREAD at place k of those WAITING");
        PackThreads x = fiveInLine();
        int[] line = {5, 0, 4, 1, 3};
        for (int k = 0; k < line.length; k++) {
            Due.is("waiting(" + k + ")", x.waiting(k), line[k]);
        }
        // The last block has 5 bytes: with 1 cell left it waits on.
        Due.steps("block 0 is made", x, 2, 31);
        for (int k = 0; k < line.length - 1; k++) {
            Due.is("then waiting(" + k + ")", x.waiting(k), line[k + 1]);
        }
    }

    private static void waitingNone() {
        Due.sentence(12, "NONE.");
        PackThreads x = fiveInLine();
        int[] wrong = {-1, 5, 6, LEAST_INT, MOST_INT};
        for (int k : wrong) {
            Due.is("waiting(" + k + ")", x.waiting(k), NONE);
        }
        Due.steps("block 0 is made", x, 2, 31);
        Due.is("one fewer", x.waiting(4), NONE);
        Due.is("the last of four", x.waiting(3), 3);
        PackThreads y = Make.apart(4, 64, 2, 8);
        y.begin(2);
        Due.is("none waits", y.waiting(0), NONE);
        y.run(2);
        Due.is("those at work do not wait", y.waiting(0), NONE);
    }

    private static void waitingNo() {
        Due.sentence(12, "NO.");
        PackThreads x = new PackThreads();
        int[] all = {0, 1, 5, -1, 6, LEAST_INT, MOST_INT};
        for (int k : all) {
            Due.is("waiting(" + k + ")", x.waiting(k), NO);
        }
        PackThreads y = fiveInLine();
        y.clear();
        Due.is("cleared: waiting(0)", y.waiting(0), NO);
    }

    private static void closeAll() {
        Due.sentence(14, "All THREADS that have not ENDED end, by numbers");
        PackThreads x = Make.apart(4, 64, 1, 12);
        x.begin(5);
        x.interrupt(4);
        Due.turns("take, one ends", x, 1, 0, 1, 2, 4);
        Due.steps("block 1 is in the row", x, 1, 4);
        Due.steps("block 2 is held", x, 2, 4);
        Due.is("close", x.close(), 4);
        int[] made = {0, 1, 1, 0, 0};
        for (int number = 0; number < 5; number++) {
            Due.thread("closed", x, number, ENDED, NONE, NONE, made[number], 1);
        }
        Due.turns("ended before", x, 0, 0, 1, 2, 3, 4);
        Due.is("run", x.run(400), 0);
        Due.is("begun still", x.begin(1), NO);
    }

    private static void closeGivesBack() {
        Due.sentence(14, "(MEMORY is given back, PACKS that they hold go");
        PackThreads x = Make.apart(4, 64, 1, 16);
        x.begin(4);
        Due.turns("take", x, 1, 0, 1, 2, 3);
        Due.steps("block 2 is in the row", x, 2, 4);
        Due.steps("block 1 is held", x, 1, 4);
        Due.thread("held", x, 1, HOLDING, 1, NONE, 1, 0);
        Due.told("two are at work", x, 4, 0, 0, 56, 0, 1, NONE, 0, 0, 12, 0);
        Due.is("close", x.close(), 4);
        Due.told("all cells are left, the row is as it was", x, 4, 0, 0, 64, 0, 1, NONE, 0, 0, 12, 0);
        Due.is("nothing is joined by that", x.out(0), NONE);
        PackThreads y = Make.apart(4, 64, 1, 16);
        y.begin(3);
        Due.turns("take", y, 1, 0, 1, 2);
        Due.steps("block 1 is in the row", y, 1, 4);
        Due.steps("block 2 is held", y, 2, 4);
        Due.steps("blocks 0 and 1 are joined", y, 0, 4);
        Due.thread("block 2 is held, and the next one", y, 2, HOLDING, 2, NONE, 1, 0);
        Due.is("close", y.close(), 3);
        Due.told("block 2 is gone", y, 4, 2, 12, 64, 0, 0, NONE, 0, 0, 15, 0);
    }

    private static void closeLetsNoneBegin() {
        Due.sentence(14, "none begins WORK by that)");
        int[][] orders = {{0, 1, 2}, {2, 1, 0}, {1, 2, 0}};
        for (int[] order : orders) {
            PackThreads x = Make.apart(32, 32, 1, 96);
            x.begin(3);
            Due.turns("one works, two wait", x, 1, order);
            Due.is("close", x.close(), 3);
            Due.told("closed", x, 3, 0, 0, 32, 0, 0, NONE, 0, 0, 3, 0);
            Due.is("none waits", x.waiting(0), NONE);
            for (int number = 0; number < 3; number++) {
                Due.thread("closed", x, number, ENDED, NONE, NONE, 0, 1);
            }
        }
    }

    private static void closeHowMany() {
        Due.sentence(14, "how many.");
        for (int n = 1; n <= 6; n++) {
            PackThreads x = Make.apart(4, 64, 2, 8);
            x.begin(n);
            Due.is("all of " + n, x.close(), n);
            Due.is("again", x.close(), 0);
        }
        PackThreads y = Make.apart(4, 64, 2, 8);
        y.begin(3);
        y.interrupt(0);
        Due.turns("one ends", y, 1, 0);
        Due.is("the others", y.close(), 2);
        PackThreads z = Make.apart(4, 64, 2, 8);
        z.begin(3);
        z.run(400);
        Due.is("none is left", z.close(), 0);
    }

    private static void closeNo() {
        Due.sentence(14, "NO: not BEGUN.");
        PackThreads x = new PackThreads();
        Due.is("a new object", x.close(), NO);
        x.type(1);
        Due.is("with a text", x.close(), NO);
        x.begin(1);
        Due.is("begun", x.close(), 1);
        x.clear();
        Due.is("cleared", x.close(), NO);
    }
}
