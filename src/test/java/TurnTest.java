/** Promises 6 to 9, 11, 12 and 14: turn, run, interrupt, thread, told, waiting, close. */
public final class TurnTest {
    private static final int NONE = PackThreads.NONE, BAD = PackThreads.BAD;
    private static final int NO = PackThreads.NO;

    public static void main(String[] args) {
        wrongNumbers();
        oneThread();
        noBlocks();
        passedOver();
        line();
        lineGivesNobodyTheWay();
        memoryGoesToSeveral();
        row();
        rowTakesTheNextOneWhenFull();
        ring();
        ringGoesOverEnded();
        interrupts();
        interruptedInLine();
        interruptedHolding();
        close();
        closeWithLine();
        closeGivesTheLineNothing();
        Due.finish();
    }

    private static PackThreads of(int size, int cells, int rowLimit, int bytes) {
        PackThreads x = new PackThreads();
        x.set(0, size);
        x.set(1, 0);
        x.set(2, cells);
        x.set(3, rowLimit);
        for (int i = 0; i < bytes; i++) {
            x.type(i);
        }
        return x;
    }

    private static void wrongNumbers() {
        PackThreads x = of(4, 32, 1, 8);
        x.begin(3);
        int[] wrong = {-1, 3, 6, Integer.MIN_VALUE, Integer.MAX_VALUE};
        for (int number : wrong) {
            Due.is("turn(" + number + ")", x.turn(number), BAD);
            Due.is("interrupt(" + number + ")", x.interrupt(number), BAD);
            Due.is("thread(" + number + ", 0)", x.thread(number, 0), BAD);
            Due.is("waiting(" + number + ")", x.waiting(number), NONE);
        }
        int[] wrongWhat = {-1, 5, Integer.MIN_VALUE, Integer.MAX_VALUE};
        for (int what : wrongWhat) {
            Due.is("thread(0, " + what + ")", x.thread(0, what), BAD);
        }
        int[] wrongTold = {-1, 11, Integer.MIN_VALUE, Integer.MAX_VALUE};
        for (int what : wrongTold) {
            Due.is("told(" + what + ")", x.told(what), BAD);
        }
        int[] wrongRun = {-1, 401, Integer.MIN_VALUE, Integer.MAX_VALUE};
        for (int n : wrongRun) {
            Due.is("run(" + n + ")", x.run(n), BAD);
        }
        Due.is("run(0)", x.run(0), 0);
        Due.told("nothing changed", x, 2, 0, 0, 32, 0, 0, NONE, 0, 0, 0, 0);
    }

    private static void oneThread() {
        PackThreads x = of(4, 32, 1, 6);
        x.begin(1);
        Due.turns("take", x, 1, 0);
        Due.thread("taken", x, 0, 2, 0, 0, 0, 0);
        Due.told("taken", x, 2, 0, 0, 28, 0, 0, NONE, 0, 0, 1, 0);
        Due.turns("a step", x, 1, 0);
        Due.thread("a step", x, 0, 2, 0, 1, 0, 0);
        Due.turns("up to the last step", x, 1, 0, 0);
        Due.thread("before the last step", x, 0, 2, 0, 3, 0, 0);
        Due.turns("the last step", x, 1, 0);
        Due.thread("made and joined", x, 0, 0, NONE, NONE, 1, 0);
        Due.told("made and joined", x, 2, 1, 6, 32, 0, 0, NONE, 0, 0, 5, 0);
        Due.turns("take the last, of two bytes", x, 1, 0);
        Due.is("two cells", x.told(3), 30);
        Due.turns("make it", x, 1, 0, 0);
        Due.thread("all joined", x, 0, 0, NONE, NONE, 2, 0);
        Due.turns("end", x, 1, 0);
        Due.thread("ended", x, 0, 4, NONE, NONE, 2, 1);
        Due.turns("ended before", x, 0, 0, 0);
        Due.thread("ended before", x, 0, 4, NONE, NONE, 2, 1);
        Due.told("ended", x, 2, 2, 10, 32, 0, 0, NONE, 0, 0, 9, 0);
    }

    private static void noBlocks() {
        PackThreads x = new PackThreads();
        Due.is("begin", x.begin(2), 0);
        Due.turns("ends at once", x, 1, 1);
        Due.thread("ended", x, 1, 4, NONE, NONE, 0, 1);
        Due.is("the other ends", x.run(400), 1);
        Due.is("none is left", x.run(400), 0);
        Due.is("told", x.told(9), 2);
    }

    private static void passedOver() {
        PackThreads x = of(4, 32, 1, 4);
        x.begin(2);
        Due.turns("take", x, 1, 1);
        Due.turns("no block is left to take", x, 0, 0, 0);
        Due.thread("passed over", x, 0, 0, NONE, NONE, 0, 0);
        Due.thread("the other", x, 1, 2, 0, 0, 0, 0);
        Due.is("passed over is not counted", x.told(9), 1);
    }

    private static void line() {
        PackThreads x = of(16, 40, 1, 80);
        x.begin(5);
        Due.turns("two at work, three in line", x, 1, 4, 3, 2, 0, 1);
        Due.told("in line", x, 5, 0, 0, 8, 3, 0, NONE, 0, 0, 5, 0);
        Due.is("first", x.waiting(0), 2);
        Due.is("second", x.waiting(1), 0);
        Due.is("third", x.waiting(2), 1);
        Due.is("no fourth", x.waiting(3), NONE);
        Due.is("none before", x.waiting(-1), NONE);
        Due.thread("in line", x, 2, 1, 2, NONE, 0, 0);
        Due.turns("passed over in line", x, 0, 2, 0, 1);
        Due.is("passed over in line", x.told(9), 5);
        for (int step = 0; step < 16; step++) {
            Due.turns("thread 4 makes block 0", x, 1, 4);
        }
        Due.told("first of the line at work", x, 5, 1, 18, 8, 2, 0, NONE, 0, 0, 21, 0);
        Due.thread("first of the line at work", x, 2, 2, 2, 0, 0, 0);
        Due.is("first now", x.waiting(0), 0);
        Due.is("second now", x.waiting(1), 1);
        Due.is("no third", x.waiting(2), NONE);
    }

    private static void lineGivesNobodyTheWay() {
        // Blocks of 32, 32 and 6 bytes: the last one would fit beside the first, but not before one in line.
        PackThreads x = of(32, 40, 1, 70);
        x.begin(3);
        Due.turns("work, line, line", x, 1, 0, 1, 2);
        Due.told("a small one waits behind a large one", x, 3, 0, 0, 8, 2, 0);
        Due.is("first", x.waiting(0), 1);
        Due.is("second", x.waiting(1), 2);
        for (int step = 0; step < 32; step++) {
            Due.turns("thread 0 makes block 0", x, 1, 0);
        }
        Due.told("both start", x, 3, 1, 34, 2, 0, 0);
        Due.thread("the large one", x, 1, 2, 1, 0, 0, 0);
        Due.thread("the small one", x, 2, 2, 2, 0, 0, 0);
    }

    private static void memoryGoesToSeveral() {
        // A block takes what is left to the last cell.
        PackThreads x = of(16, 32, 8, 64);
        x.begin(4);
        Due.turns("two work, two wait", x, 1, 0, 1, 2, 3);
        Due.told("no cell is left", x, 4, 0, 0, 0, 2, 0);
        for (int step = 0; step < 16; step++) {
            Due.turns("thread 1 makes block 1", x, 1, 1);
        }
        Due.told("one starts", x, 4, 0, 0, 0, 1, 1);
        Due.thread("the first in line", x, 2, 2, 2, 0, 0, 0);
        Due.thread("the second", x, 3, 1, 3, NONE, 0, 0);
        Due.is("the second is first now", x.waiting(0), 3);
    }

    private static void makeBlock(PackThreads x, int number) {
        Due.turns("a block of 4 is made", x, 1, number, number, number, number);
    }

    private static void row() {
        PackThreads x = of(4, 64, 1, 24);
        x.begin(4);
        Due.turns("take", x, 1, 0, 1, 2, 3);
        makeBlock(x, 1);
        Due.thread("laid into the row", x, 1, 0, NONE, NONE, 1, 0);
        makeBlock(x, 2);
        Due.thread("the row is full", x, 2, 3, 2, NONE, 1, 0);
        Due.told("memory is back all the same", x, 6, 0, 0, 56, 0, 1, NONE, 0, 0, 12, 0);
        Due.turns("passed over", x, 0, 2, 2);
        Due.is("passed over", x.told(9), 12);
        makeBlock(x, 0);
        Due.told("0 and 1 are joined", x, 6, 2, 12, 60, 0, 0);
        Due.thread("still holding", x, 2, 3, 2, NONE, 1, 0);
        Due.turns("2 is joined at its turn", x, 1, 2);
        Due.thread("free", x, 2, 0, NONE, NONE, 1, 0);
        Due.told("2 is joined", x, 6, 3, 18, 60, 0, 0, NONE, 0, 0, 17, 0);
    }

    private static void rowTakesTheNextOneWhenFull() {
        PackThreads x = of(4, 64, 2, 24);
        x.begin(5);
        Due.turns("take", x, 1, 0, 1, 2, 3, 4);
        makeBlock(x, 4);
        makeBlock(x, 2);
        makeBlock(x, 1);
        Due.told("4 and 2 are in the row", x, 6, 0, 0, 56, 0, 2);
        Due.thread("1 is held", x, 1, 3, 1, NONE, 1, 0);
        makeBlock(x, 0);
        Due.told("0 is joined past a full row", x, 6, 1, 6, 60, 0, 2);
        Due.turns("1 is joined past a full row", x, 1, 1);
        Due.told("and 2 with it", x, 6, 3, 18, 60, 0, 1);
        makeBlock(x, 3);
        Due.told("3, and 4 with it", x, 6, 5, 30, 64, 0, 0);
    }

    private static void ring() {
        PackThreads x = of(4, 64, 2, 12);
        x.begin(3);
        Due.is("run(1)", x.run(1), 1);
        Due.thread("0 at first", x, 0, 2, 0, 0, 0, 0);
        Due.thread("1 not yet", x, 1, 0, NONE, NONE, 0, 0);
        Due.is("run(1)", x.run(1), 1);
        Due.thread("then 1", x, 1, 2, 1, 0, 0, 0);
        Due.turns("a turn of 0", x, 1, 0);
        Due.is("run(1)", x.run(1), 1);
        Due.thread("1, behind the latest turn", x, 1, 2, 1, 1, 0, 0);
        Due.is("run(2)", x.run(2), 2);
        Due.thread("then 2", x, 2, 2, 2, 0, 0, 0);
        Due.thread("then 0 again", x, 0, 2, 0, 2, 0, 0);
        Due.is("run(0)", x.run(0), 0);
        Due.is("refused turn", x.turn(3), BAD);
        Due.is("run(1)", x.run(1), 1);
        Due.thread("neither changed the ring", x, 1, 2, 1, 2, 0, 0);
        Due.is("to the end", x.run(400), 11);
        Due.told("to the end", x, 3, 3, 18, 64, 0, 0, NONE, 0, 0, 18, 0);
    }

    private static void ringGoesOverEnded() {
        PackThreads x = of(4, 64, 2, 4);
        x.begin(3);
        Due.is("interrupt(1)", x.interrupt(1), 1);
        Due.is("interrupt(2)", x.interrupt(2), 1);
        Due.is("take, end, end", x.run(3), 3);
        Due.is("one step, two ended before", x.run(3), 1);
        Due.thread("one step", x, 0, 2, 0, 1, 0, 0);
        Due.is("no step", x.run(0), 0);
        Due.is("three steps and the end", x.run(400), 4);
    }

    private static void interrupts() {
        PackThreads x = of(4, 64, 2, 8);
        x.begin(2);
        Due.is("interrupt(0)", x.interrupt(0), 1);
        Due.is("again", x.interrupt(0), 0);
        Due.thread("it has not ended by that", x, 0, 0, NONE, NONE, 0, 0);
        Due.turns("it ends at its turn", x, 1, 0);
        Due.thread("ended", x, 0, 4, NONE, NONE, 0, 1);
        Due.is("ended before", x.interrupt(0), 0);
        Due.turns("take", x, 1, 1);
        Due.is("interrupt at work", x.interrupt(1), 1);
        makeBlock(x, 1);
        Due.thread("the block is made", x, 1, 0, NONE, NONE, 1, 0);
        Due.turns("no other is taken", x, 1, 1);
        Due.thread("ended", x, 1, 4, NONE, NONE, 1, 1);
        Due.told("one is joined", x, 2, 1, 6, 64, 0, 0, NONE, 0, 0, 7, 0);
    }

    private static void interruptedInLine() {
        PackThreads x = of(32, 32, 2, 64);
        x.begin(2);
        Due.turns("work and line", x, 1, 0, 1);
        Due.is("interrupt in line", x.interrupt(1), 1);
        Due.turns("passed over", x, 0, 1);
        for (int step = 0; step < 32; step++) {
            Due.turns("thread 0 makes block 0", x, 1, 0);
        }
        Due.thread("at work, interrupted", x, 1, 2, 1, 0, 0, 0);
        Due.turns("a step", x, 1, 1);
        Due.thread("a step", x, 1, 2, 1, 1, 0, 0);
    }

    private static void interruptedHolding() {
        PackThreads x = of(4, 64, 1, 12);
        x.begin(3);
        Due.turns("take", x, 1, 0, 1, 2);
        makeBlock(x, 2);
        makeBlock(x, 1);
        Due.is("interrupt holding", x.interrupt(1), 1);
        Due.turns("stays holding", x, 0, 1);
        makeBlock(x, 0);
        Due.turns("lays its pack", x, 1, 1);
        Due.told("all are joined", x, 3, 3, 18, 64, 0, 0);
        Due.turns("ends", x, 1, 1);
        Due.thread("ended", x, 1, 4, NONE, NONE, 1, 1);
    }

    private static void close() {
        PackThreads x = of(4, 64, 1, 40);
        x.begin(6);
        Due.is("interrupt(5)", x.interrupt(5), 1);
        Due.turns("take, one ends", x, 1, 0, 1, 2, 5);
        makeBlock(x, 2);
        makeBlock(x, 1);
        Due.thread("holding", x, 1, 3, 1, NONE, 1, 0);
        Due.is("close", x.close(), 5);
        Due.told("closed", x, 10, 0, 0, 64, 0, 1, NONE, 0, 0, 12, 0);
        Due.thread("was at work", x, 0, 4, NONE, NONE, 0, 1);
        Due.thread("was holding", x, 1, 4, NONE, NONE, 1, 1);
        Due.thread("was free", x, 3, 4, NONE, NONE, 0, 1);
        Due.thread("had ended", x, 5, 4, NONE, NONE, 0, 1);
        Due.is("close again", x.close(), 0);
        Due.thread("ended once", x, 0, 4, NONE, NONE, 0, 1);
        Due.turns("ended before", x, 0, 0, 1, 2, 3, 4, 5);
        Due.is("run", x.run(400), 0);
        Due.is("interrupt", x.interrupt(3), 0);
        Due.is("still begun", x.begin(1), NO);
        Due.is("still begun", x.type(1), NO);
    }

    private static void closeWithLine() {
        PackThreads x = of(32, 32, 1, 96);
        x.begin(3);
        Due.turns("one works, two wait", x, 1, 0, 1, 2);
        Due.is("two wait", x.told(4), 2);
        Due.is("close", x.close(), 3);
        Due.told("closed", x, 3, 0, 0, 32, 0, 0, NONE, 0, 0, 3, 0);
        Due.is("none waits", x.waiting(0), NONE);
        Due.thread("never began work", x, 1, 4, NONE, NONE, 0, 1);
    }

    private static void closeGivesTheLineNothing() {
        // Those in line end before the one at work gives its memory back.
        PackThreads x = of(32, 32, 1, 96);
        x.begin(3);
        Due.turns("one works, two wait", x, 1, 2, 1, 0);
        Due.is("first in line", x.waiting(0), 1);
        Due.is("close", x.close(), 3);
        Due.told("closed", x, 3, 0, 0, 32, 0, 0, NONE, 0, 0, 3, 0);
        for (int number = 0; number < 3; number++) {
            Due.thread("ended", x, number, 4, NONE, NONE, 0, 1);
        }
        Due.is("none waits", x.waiting(0), NONE);
    }
}
