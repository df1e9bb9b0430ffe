/** The edges of begin, turn, run, interrupt and thread: promises 5 to 9, sentence by sentence. */
public final class CallEdgeTest {
    private static final int NONE = PackThreads.NONE, BAD = PackThreads.BAD;
    private static final int NO = PackThreads.NO;
    private static final int LEAST_INT = Integer.MIN_VALUE, MOST_INT = Integer.MAX_VALUE;
    private static final int FREE = 0, WAITING = 1, WORK = 2, HOLDING = 3, ENDED = 4;

    public static void main(String[] args) {
        beginAllFree();
        beginBad();
        beginNo();
        turnDid();
        turnPassedOver();
        turnEndedBefore();
        turnBad();
        turnNo();
        runNone();
        runOne();
        run400();
        runCountsThosePassedOver();
        runRing();
        runRingOfOne();
        runRingOfSix();
        runBehindTheLatest();
        runAtFirst();
        runUntilAllEnded();
        runOverThoseThatEnded();
        runHowMany();
        runBad();
        runNo();
        interrupted();
        interruptedInEachState();
        interruptedBefore();
        interruptEnded();
        interruptBad();
        interruptNo();
        threadState();
        threadBlock();
        threadStep();
        threadMade();
        threadEnded();
        threadBad();
        threadNo();
        Due.finish();
    }

    private static PackThreads begun(int threads, int blocks) {
        PackThreads x = Make.apart(4, 64, 2, 4 * blocks);
        x.begin(threads);
        return x;
    }

    private static void beginAllFree() {
        Due.sentence(5, "BEGUN, with n THREADS, all FREE");
        for (int n = 1; n <= 6; n++) {
            PackThreads x = Make.apart(4, 64, 2, 8);
            Due.is("begin(" + n + ")", x.begin(n), 2);
            for (int number = 0; number < n; number++) {
                Due.thread("of " + n, x, number, FREE, NONE, NONE, 0, 0);
            }
            Due.is("no more of " + n, x.thread(n, 0), BAD);
            Due.told("begun", x, 2, 0, 0, 64, 0, 0, NONE, 0, 0, 0, 0);
        }
    }

    private static void beginBad() {
        Due.sentence(5, "BAD; NO: BEGUN.");
        PackThreads x = new PackThreads();
        PackThreads begun = begun(2, 1);
        int[] wrong = {0, 7, -1, LEAST_INT, MOST_INT};
        for (int n : wrong) {
            Due.is("begin(" + n + ")", x.begin(n), BAD);
            Due.is("BAD before NO: begin(" + n + ")", begun.begin(n), BAD);
        }
        Due.is("not begun by that", x.told(0), NO);
        Due.is("two threads still", begun.thread(2, 0), BAD);
    }

    private static void beginNo() {
        Due.sentence(5, "NO: BEGUN.");
        PackThreads x = begun(2, 2);
        Due.is("take", x.run(1), 1);
        Due.is("begin(1)", x.begin(1), NO);
        Due.is("begin(6)", x.begin(6), NO);
        Due.thread("at work still", x, 0, WORK, 0, 0, 0, 0);
        Due.is("two threads still", x.thread(2, 0), BAD);
        x.run(400);
        Due.is("all have ended: begun still", x.begin(1), NO);
        x.close();
        Due.is("closed: begun still", x.begin(1), NO);
        x.clear();
        Due.is("not begun any more", x.begin(1), 0);
    }

    private static void turnDid() {
        Due.sentence(6, "A TURN: 1 something was done");
        PackThreads x = Make.apart(32, 32, 1, 64);
        x.plant(1, 0, 1, false);
        x.begin(2);
        Due.is("take", x.turn(0), 1);
        Due.is("come into line", x.turn(1), 1);
        Due.steps("a token", x, 0, 32);
        Due.is("fail", x.turn(1), 1);
        Due.is("take again", x.turn(0), 1);
        Due.steps("a token", x, 0, 32);
        Due.is("end", x.turn(0), 1);
        Due.is("end", x.turn(1), 1);
        PackThreads y = Make.apart(4, 64, 1, 12);
        y.begin(3);
        Due.turns("take", y, 1, 0, 1, 2);
        Due.steps("block 1 is laid into the row", y, 1, 4);
        Due.steps("block 2 is held", y, 2, 4);
        Due.steps("block 0 is joined", y, 0, 4);
        Due.is("block 2 is laid", y.turn(2), 1);
    }

    private static void turnPassedOver() {
        Due.sentence(6, "0 passed over");
        PackThreads x = Make.apart(32, 32, 1, 64);
        x.begin(3);
        Due.turns("work and line", x, 1, 0, 1);
        Due.is("in line", x.turn(1), 0);
        Due.is("no block is left", x.turn(2), 0);
        PackThreads y = Make.apart(4, 64, 1, 12);
        y.begin(3);
        Due.turns("take", y, 1, 0, 1, 2);
        Due.steps("block 1 is laid into the row", y, 1, 4);
        Due.steps("block 2 is held", y, 2, 4);
        Due.is("holding", y.turn(2), 0);
        Due.is("only what did something is counted", y.told(9), 11);
    }

    private static void turnEndedBefore() {
        Due.sentence(6, "or ENDED before.");
        PackThreads x = new PackThreads();
        x.begin(2);
        Due.is("it ends", x.turn(1), 1);
        Due.is("ended before", x.turn(1), 0);
        Due.is("ended before", x.turn(1), 0);
        Due.thread("ended once", x, 1, ENDED, NONE, NONE, 0, 1);
        Due.is("one did something", x.told(9), 1);
        x.close();
        Due.is("ended by close", x.turn(0), 0);
    }

    private static void turnBad() {
        Due.sentence(6, "BAD; NO: not BEGUN.");
        PackThreads x = begun(3, 2);
        int[] wrong = {-1, 3, 5, 6, LEAST_INT, MOST_INT};
        for (int number : wrong) {
            Due.is("turn(" + number + ")", x.turn(number), BAD);
        }
        Due.told("nothing was done", x, 2, 0, 0, 64, 0, 0, NONE, 0, 0, 0, 0);
        PackThreads fresh = new PackThreads();
        int[] never = {-1, 6, LEAST_INT, MOST_INT};
        for (int number : never) {
            Due.is("BAD before NO: turn(" + number + ")", fresh.turn(number), BAD);
        }
    }

    private static void turnNo() {
        Due.sentence(6, "NO: not BEGUN.");
        PackThreads x = new PackThreads();
        Due.is("turn(0)", x.turn(0), NO);
        Due.is("turn(5)", x.turn(5), NO);
        x.begin(1);
        x.clear();
        Due.is("cleared: turn(0)", x.turn(0), NO);
    }

    private static void runNone() {
        Due.sentence(7, "Up to n (0 .. 400) TURNS");
        PackThreads x = begun(2, 2);
        Due.is("run(0)", x.run(0), 0);
        Due.told("no turn", x, 2, 0, 0, 64, 0, 0, NONE, 0, 0, 0, 0);
        Due.is("run(1)", x.run(1), 1);
        Due.thread("thread 0", x, 0, WORK, 0, 0, 0, 0);
        Due.is("run(0)", x.run(0), 0);
        Due.is("run(1)", x.run(1), 1);
        Due.thread("then thread 1", x, 1, WORK, 1, 0, 0, 0);
    }

    private static void runOne() {
        Due.sentence(7, "Up to n");
        PackThreads x = begun(1, 2);
        Due.is("run(1)", x.run(1), 1);
        Due.thread("take", x, 0, WORK, 0, 0, 0, 0);
        Due.is("run(3)", x.run(3), 3);
        Due.thread("three tokens", x, 0, WORK, 0, 3, 0, 0);
        Due.is("run(2)", x.run(2), 2);
        Due.thread("a token, and take", x, 0, WORK, 1, 0, 1, 0);
    }

    /** One of six works at a time: the first round takes five blocks, then each round makes a byte. */
    private static PackThreads slow() {
        PackThreads x = Make.apart(32, 32, 2, 160);
        x.begin(6);
        return x;
    }

    private static void run400() {
        Due.sentence(7, "(0 .. 400)");
        PackThreads x = slow();
        Due.is("run(401)", x.run(401), BAD);
        Due.is("run(-1)", x.run(-1), BAD);
        // 66 rounds and 4 turns: 5 blocks are taken; 32 bytes in rounds 2 to 33, 32 in rounds
        // 33 to 64, and from round 64 on 4 of block 2.
        Due.is("run(400)", x.run(400), 5 + 32 + 32 + 4);
        Due.thread("block 2", x, 2, WORK, 2, 4, 0, 0);
        Due.is("the turn of 4, 5, 0, 1", x.run(4), 0);
        Due.is("the turn of 2", x.run(1), 1);
        Due.thread("a byte more", x, 2, WORK, 2, 5, 0, 0);
    }

    private static void runCountsThosePassedOver() {
        Due.sentence(7, "n (0 .. 400) TURNS");
        PackThreads x = slow();
        Due.is("five are taken, one is passed over", x.run(6), 5);
        Due.is("one makes a byte, five are passed over", x.run(6), 1);
        Due.is("one makes a byte", x.run(1), 1);
        Due.is("five are passed over", x.run(5), 0);
        Due.thread("two bytes", x, 0, WORK, 0, 2, 0, 0);
    }

    private static void runRing() {
        Due.sentence(7, "of THREADS in a ring");
        PackThreads x = begun(3, 3);
        Due.is("0, 1, 2", x.run(3), 3);
        Due.is("past the last one: 0", x.run(1), 1);
        Due.is("thread 0", x.thread(0, 2), 1);
        Due.is("thread 1", x.thread(1, 2), 0);
        Due.is("thread 2", x.thread(2, 2), 0);
        Due.is("1, 2, 0, 1", x.run(4), 4);
        Due.is("thread 0", x.thread(0, 2), 2);
        Due.is("thread 1", x.thread(1, 2), 2);
        Due.is("thread 2", x.thread(2, 2), 1);
    }

    private static void runRingOfOne() {
        Due.sentence(7, "of THREADS in a ring");
        PackThreads x = begun(1, 1);
        Due.is("0, 0", x.run(2), 2);
        Due.thread("a byte", x, 0, WORK, 0, 1, 0, 0);
        Due.is("0", x.run(1), 1);
        Due.thread("two bytes", x, 0, WORK, 0, 2, 0, 0);
    }

    private static void runRingOfSix() {
        Due.sentence(7, "of THREADS in a ring");
        PackThreads x = begun(6, 6);
        Due.is("0 to 5", x.run(6), 6);
        for (int number = 0; number < 6; number++) {
            Due.is("thread " + number + " has its block", x.thread(number, 1), number);
        }
        Due.is("0 to 5, and 0", x.run(7), 7);
        Due.is("thread 0", x.thread(0, 2), 2);
        Due.is("thread 1", x.thread(1, 2), 1);
        Due.is("thread 5", x.thread(5, 2), 1);
    }

    private static void runBehindTheLatest() {
        Due.sentence(7, "from the one behind that which had the latest");
        PackThreads x = begun(3, 3);
        Due.is("a turn of 1", x.turn(1), 1);
        Due.is("run(1)", x.run(1), 1);
        Due.is("2 has its first", x.thread(2, 1), 1);
        Due.is("run(1)", x.run(1), 1);
        Due.is("then 0", x.thread(0, 1), 2);
        Due.is("a turn of the last", x.turn(2), 1);
        Due.is("run(1)", x.run(1), 1);
        Due.is("0 behind the last", x.thread(0, 2), 1);
        Due.is("no turn: BAD", x.turn(3), BAD);
        Due.is("no turn: run(0)", x.run(0), 0);
        Due.is("no turn: run(401)", x.run(401), BAD);
        Due.is("run(1)", x.run(1), 1);
        Due.is("1 behind 0", x.thread(1, 2), 1);
        PackThreads y = begun(3, 1);
        Due.is("0 takes", y.turn(0), 1);
        Due.is("1 is passed over", y.turn(1), 0);
        Due.is("2 is behind it, and is passed over", y.run(1), 0);
        Due.is("then 0", y.run(1), 1);
    }

    private static void runAtFirst() {
        Due.sentence(7, "(0 at first)");
        PackThreads x = begun(3, 3);
        Due.is("run(1)", x.run(1), 1);
        Due.thread("thread 0", x, 0, WORK, 0, 0, 0, 0);
        Due.thread("not thread 1", x, 1, FREE, NONE, NONE, 0, 0);
        x.clear();
        Due.types(x, "abcd");
        x.begin(3);
        Due.is("run(1)", x.run(1), 1);
        Due.thread("thread 0 behind clear", x, 0, WORK, 0, 0, 0, 0);
    }

    private static void runUntilAllEnded() {
        Due.sentence(7, "until all have ENDED");
        PackThreads x = new PackThreads();
        x.begin(6);
        Due.is("all but one end", x.run(5), 5);
        Due.is("the last one ends", x.run(400), 1);
        Due.is("none is left", x.run(400), 0);
        Due.is("none is left", x.run(0), 0);
        Due.is("6 turns did something", x.told(9), 6);
        for (int number = 0; number < 6; number++) {
            Due.thread("ended once", x, number, ENDED, NONE, NONE, 0, 1);
        }
        PackThreads y = begun(2, 2);
        y.close();
        Due.is("none is left behind close", y.run(400), 0);
    }

    private static void runOverThoseThatEnded() {
        Due.sentence(7, "Up to n (0 .. 400) TURNS, of THREADS in a ring");
        PackThreads x = begun(3, 1);
        x.interrupt(1);
        x.interrupt(2);
        Due.is("take, end, end", x.run(3), 3);
        Due.is("a byte, and two that ended before", x.run(3), 1);
        Due.thread("a byte", x, 0, WORK, 0, 1, 0, 0);
        Due.is("three bytes, and the end", x.run(400), 4);
    }

    private static void runHowMany() {
        Due.sentence(7, "how many of them did something.");
        PackThreads x = begun(2, 1);
        Due.is("take; passed over", x.run(2), 1);
        Due.is("a byte; passed over", x.run(2), 1);
        Due.is("passed over is the second of these", x.run(1), 1);
        Due.is("passed over", x.run(1), 0);
        Due.is("two bytes, two ends, one passed over", x.run(400), 4);
        Due.is("told(9)", x.told(9), 7);
    }

    private static void runBad() {
        Due.sentence(7, "BAD; NO.");
        PackThreads x = begun(2, 2);
        PackThreads fresh = new PackThreads();
        int[] wrong = {-1, 401, LEAST_INT, MOST_INT};
        for (int n : wrong) {
            Due.is("run(" + n + ")", x.run(n), BAD);
            Due.is("BAD before NO: run(" + n + ")", fresh.run(n), BAD);
        }
        Due.told("nothing was done", x, 2, 0, 0, 64, 0, 0, NONE, 0, 0, 0, 0);
    }

    private static void runNo() {
        Due.sentence(7, "NO.");
        PackThreads x = new PackThreads();
        Due.is("run(0)", x.run(0), NO);
        Due.is("run(400)", x.run(400), NO);
        x.begin(1);
        x.clear();
        Due.is("cleared: run(1)", x.run(1), NO);
    }

    private static void interrupted() {
        Due.sentence(8, "A THREAD is INTERRUPTED: 1");
        PackThreads x = begun(6, 2);
        Due.is("the first", x.interrupt(0), 1);
        Due.is("the last", x.interrupt(5), 1);
        Due.thread("not ended by that", x, 0, FREE, NONE, NONE, 0, 0);
        Due.is("no turn by that", x.told(9), 0);
        Due.turns("they end", x, 1, 0, 5);
        Due.is("the first", x.thread(0, 0), ENDED);
        Due.is("the last", x.thread(5, 0), ENDED);
        Due.turns("another takes a block", x, 1, 1);
        Due.is("at work", x.thread(1, 0), WORK);
    }

    private static void interruptedInEachState() {
        Due.sentence(8, "A THREAD is INTERRUPTED: 1");
        PackThreads x = inLine();
        Due.is("at work", x.interrupt(0), 1);
        Due.is("waiting", x.interrupt(1), 1);
        Due.is("free", x.interrupt(3), 1);
        Due.is("ended", x.interrupt(2), 0);
        Due.steps("block 0 is made", x, 0, 30);
        Due.thread("the one that waited is at work", x, 1, WORK, 1, 0, 0, 0);
        Due.steps("block 1 is made", x, 1, 32);
        Due.is("both are joined", x.told(1), 2);
        PackThreads y = withHolder();
        Due.is("holding", y.interrupt(2), 1);
        Due.steps("block 0 is joined", y, 0, 4);
        Due.turns("block 2 is laid, and its thread ends", y, 1, 2, 2);
        Due.is("all are joined", y.told(1), 3);
        Due.thread("ended", y, 2, ENDED, NONE, NONE, 1, 1);
    }

    private static void interruptedBefore() {
        Due.sentence(8, "0: it was");
        PackThreads x = begun(2, 2);
        Due.turns("take", x, 1, 0);
        Due.is("at work", x.interrupt(0), 1);
        Due.is("again", x.interrupt(0), 0);
        Due.steps("its block is made", x, 0, 4);
        Due.is("free, interrupted still", x.interrupt(0), 0);
        Due.is("another was not", x.interrupt(1), 1);
        x.clear();
        x.type(1);
        x.begin(2);
        Due.is("not any more behind clear", x.interrupt(0), 1);
    }

    private static void interruptEnded() {
        Due.sentence(8, "or has ENDED.");
        PackThreads x = new PackThreads();
        x.begin(2);
        Due.is("it ends", x.turn(0), 1);
        Due.is("never interrupted, ended", x.interrupt(0), 0);
        x.close();
        Due.is("ended by close", x.interrupt(1), 0);
    }

    private static void interruptBad() {
        Due.sentence(8, "BAD; NO.");
        PackThreads x = begun(3, 2);
        int[] wrong = {-1, 3, 5, 6, LEAST_INT, MOST_INT};
        for (int number : wrong) {
            Due.is("interrupt(" + number + ")", x.interrupt(number), BAD);
        }
        PackThreads fresh = new PackThreads();
        int[] never = {-1, 6, LEAST_INT, MOST_INT};
        for (int number : never) {
            Due.is("BAD before NO: interrupt(" + number + ")", fresh.interrupt(number), BAD);
        }
        Due.is("none was interrupted", x.run(2), 2);
        Due.is("so none ended", x.thread(1, 0), WORK);
    }

    private static void interruptNo() {
        Due.sentence(8, "NO.");
        PackThreads x = new PackThreads();
        Due.is("interrupt(0)", x.interrupt(0), NO);
        Due.is("interrupt(5)", x.interrupt(5), NO);
        x.type(1);
        x.begin(1);
        Due.is("not interrupted by that", x.run(1), 1);
        Due.is("it took a block", x.thread(0, 0), WORK);
        x.clear();
        Due.is("cleared: interrupt(0)", x.interrupt(0), NO);
    }

    /** Thread 0 is at work at step 2, 1 waits, 2 has ended, and 3 is free. */
    private static PackThreads inLine() {
        PackThreads x = Make.apart(32, 40, 1, 64);
        x.begin(4);
        x.interrupt(2);
        Due.turns("work, line, end", x, 1, 0, 1, 2);
        Due.steps("two bytes", x, 0, 2);
        return x;
    }

    /** Thread 0 is at work on block 0, thread 2 holds block 2, and block 1 fills the row. */
    private static PackThreads withHolder() {
        PackThreads x = Make.apart(4, 64, 1, 12);
        x.begin(3);
        Due.turns("take", x, 1, 0, 1, 2);
        Due.steps("block 1 is laid into the row", x, 1, 4);
        Due.steps("block 2 is held", x, 2, 4);
        return x;
    }

    private static void threadState() {
        Due.sentence(9, "Of a THREAD: 0 what it is");
        PackThreads x = inLine();
        Due.is("at work", x.thread(0, 0), WORK);
        Due.is("waiting", x.thread(1, 0), WAITING);
        Due.is("ended", x.thread(2, 0), ENDED);
        Due.is("free", x.thread(3, 0), FREE);
        Due.is("holding", withHolder().thread(2, 0), HOLDING);
    }

    private static void threadBlock() {
        Due.sentence(9, "1 its BLOCK (WAITING, at WORK, HOLDING; else NONE)");
        PackThreads x = inLine();
        Due.is("at work", x.thread(0, 1), 0);
        Due.is("waiting", x.thread(1, 1), 1);
        Due.is("ended", x.thread(2, 1), NONE);
        Due.is("free", x.thread(3, 1), NONE);
        PackThreads y = withHolder();
        Due.is("holding", y.thread(2, 1), 2);
        Due.is("free behind a block", y.thread(1, 1), NONE);
        y.close();
        Due.is("ended at work", y.thread(0, 1), NONE);
        Due.is("ended holding", y.thread(2, 1), NONE);
    }

    private static void threadStep() {
        Due.sentence(9, "2 its STEP (at WORK; else NONE)");
        PackThreads x = inLine();
        Due.is("at work", x.thread(0, 2), 2);
        Due.is("waiting", x.thread(1, 2), NONE);
        Due.is("ended", x.thread(2, 2), NONE);
        Due.is("free", x.thread(3, 2), NONE);
        Due.steps("all but the last byte", x, 0, 29);
        Due.is("the greatest step", x.thread(0, 2), 31);
        x.close();
        Due.is("ended at work", x.thread(0, 2), NONE);
        PackThreads y = withHolder();
        Due.is("at work, no step made", y.thread(0, 2), 0);
        Due.is("holding", y.thread(2, 2), NONE);
        Due.is("free behind a block", y.thread(1, 2), NONE);
    }

    private static void threadMade() {
        Due.sentence(9, "3 BLOCKS whose PACKS it made");
        PackThreads x = Make.apart(4, 64, 1, 12);
        x.plant(0, 3, 1, false);
        x.begin(3);
        Due.turns("take", x, 1, 0, 1, 2);
        Due.steps("all but the last byte of block 1", x, 1, 3);
        Due.is("not yet", x.thread(1, 3), 0);
        Due.steps("the last byte", x, 1, 1);
        Due.is("in the row", x.thread(1, 3), 1);
        Due.steps("block 2", x, 2, 4);
        Due.is("held is made", x.thread(2, 3), 1);
        Due.steps("block 0 fails", x, 0, 4);
        Due.is("failed is not made", x.thread(0, 3), 0);
        Due.steps("block 0 again, by another", x, 1, 5);
        Due.is("a second one", x.thread(1, 3), 2);
        Due.is("none", x.thread(0, 3), 0);
        x.close();
        Due.is("what was held was made", x.thread(2, 3), 1);
        PackThreads most = begun(1, 40);
        most.run(400);
        Due.is("the most", most.thread(0, 3), 40);
    }

    private static void threadEnded() {
        Due.sentence(9, "4 how often it ENDED.");
        PackThreads x = begun(2, 1);
        Due.is("not yet", x.thread(0, 4), 0);
        x.run(400);
        Due.is("once", x.thread(0, 4), 1);
        Due.turns("ended before", x, 0, 0);
        x.close();
        Due.is("once", x.thread(0, 4), 1);
        PackThreads y = begun(2, 1);
        y.close();
        y.close();
        Due.is("once by close", y.thread(1, 4), 1);
        y.clear();
        y.begin(2);
        Due.is("a new one", y.thread(1, 4), 0);
    }

    private static void threadBad() {
        Due.sentence(9, "BAD; NO.");
        PackThreads x = begun(3, 2);
        PackThreads fresh = new PackThreads();
        int[] wrongThread = {-1, 3, 5, 6, LEAST_INT, MOST_INT};
        for (int number : wrongThread) {
            Due.is("thread(" + number + ", 0)", x.thread(number, 0), BAD);
            Due.is("thread(" + number + ", 4)", x.thread(number, 4), BAD);
        }
        int[] never = {-1, 6, LEAST_INT, MOST_INT};
        for (int number : never) {
            Due.is("BAD before NO: thread(" + number + ", 0)", fresh.thread(number, 0), BAD);
        }
        int[] wrongWhat = {-1, 5, LEAST_INT, MOST_INT};
        for (int what : wrongWhat) {
            Due.is("thread(0, " + what + ")", x.thread(0, what), BAD);
            Due.is("thread(2, " + what + ")", x.thread(2, what), BAD);
            Due.is("BAD before NO: thread(0, " + what + ")", fresh.thread(0, what), BAD);
        }
        Due.is("the last of the last", x.thread(2, 4), 0);
    }

    private static void threadNo() {
        Due.sentence(9, "NO.");
        PackThreads x = new PackThreads();
        for (int what = 0; what <= 4; what++) {
            Due.is("thread(0, " + what + ")", x.thread(0, what), NO);
            Due.is("thread(5, " + what + ")", x.thread(5, what), NO);
        }
        x.begin(1);
        x.clear();
        Due.is("cleared: thread(0, 0)", x.thread(0, 0), NO);
    }
}
