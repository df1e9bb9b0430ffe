/** The edges of the text, of its blocks, and of clear: promises 1, 2, 3, 5, 15, sentence by sentence. */
public final class TextEdgeTest {
    private static final int NONE = PackThreads.NONE, BAD = PackThreads.BAD;
    private static final int NO = PackThreads.NO, FULL = PackThreads.FULL;
    private static final int LEAST_INT = Integer.MIN_VALUE, MOST_INT = Integer.MAX_VALUE;

    public static void main(String[] args) {
        textHasBytes();
        textHas160AtMost();
        calls512();
        newHasNoText();
        newHasNothingPlanted();
        newIsNotBegun();
        typeCounts();
        typeBad();
        typeNo();
        typeFull();
        setRanges();
        setTellsWhatItWas();
        setBad();
        setNo();
        sizeRange();
        sizeAtItsEnds();
        sizeAtFirst();
        lastBlock();
        noBlock();
        clearIsNotBegun();
        clearLeavesNoneOfTheLine();
        clearLeavesNothingInTheRow();
        clearLeavesNothingThatFailed();
        clearLeavesNoStop();
        clearHasNothingPlanted();
        clearEmptiesTheText();
        clearKeepsSettings();
        clearTellsHowMany();
        Due.finish();
    }

    private static void typesRising(PackThreads x, int bytes) {
        Due.types(x, Make.rising(0, bytes - 1));
    }

    private static void textHasBytes() {
        Due.sentence(2, "THE TEXT has bytes 0 to 255");
        PackThreads x = new PackThreads();
        Due.is("type(-1)", x.type(-1), BAD);
        Due.is("type(0)", x.type(0), 1);
        Due.is("type(255)", x.type(255), 2);
        Due.is("type(256)", x.type(256), BAD);
        Due.plain("both ends", x, 2, 0, 255, 0);
    }

    private static void textHas160AtMost() {
        Due.sentence(2, "160 at most.");
        PackThreads x = new PackThreads();
        typesRising(x, 158);
        Due.is("type as number 159", x.type(1), 159);
        Due.is("type as number 160", x.type(2), 160);
        Due.is("type as number 161", x.type(3), FULL);
        Due.is("clear", x.clear(), 160);
    }

    private static void calls512() {
        Due.sentence(11, "An object is used for at most 512 calls after it has been made; "
                + "what later calls answer is free.");
        PackThreads x = new PackThreads();
        typesRising(x, 160);
        x.begin(1);
        int did = 0;
        for (int call = 162; call <= 511; call++) {
            did += x.run(1);
        }
        // 20 blocks are taken, 160 bytes are tokens, and the thread ends.
        Due.is("turns that did something", did, 181);
        Due.is("told(9) as call 512", x.told(9), 181);
        PackThreads y = new PackThreads();
        for (int call = 1; call <= 510; call += 2) {
            y.type(7);
            y.clear();
        }
        Due.is("type as call 511", y.type(7), 1);
        Due.is("clear as call 512", y.clear(), 1);
    }

    private static void newHasNoText() {
        Due.sentence(1, "No TEXT");
        Due.is("clear", new PackThreads().clear(), 0);
        Due.is("plain(0)", new PackThreads().plain(0), NONE);
        Due.is("type", new PackThreads().type(9), 1);
        Due.is("begin", new PackThreads().begin(1), 0);
    }

    private static void newHasNothingPlanted() {
        Due.sentence(1, "nothing PLANTED");
        PackThreads x = Make.apart(4, 64, 2, 160);
        x.begin(1);
        Due.is("40 blocks of 4 bytes", x.run(400), 40 + 160 + 1);
        Due.is("none of them failed", x.told(8), 0);
        PackThreads y = Make.apart(32, 64, 2, 160);
        y.begin(1);
        Due.is("5 blocks of 32 bytes", y.run(400), 5 + 160 + 1);
        Due.is("none of them failed", y.told(8), 0);
    }

    private static void newIsNotBegun() {
        Due.sentence(1, "not BEGUN.");
        PackThreads x = new PackThreads();
        Due.is("turn(0)", x.turn(0), NO);
        Due.is("run(1)", x.run(1), NO);
        Due.is("interrupt(0)", x.interrupt(0), NO);
        Due.is("thread(0, 0)", x.thread(0, 0), NO);
        Due.is("told(0)", x.told(0), NO);
        Due.is("waiting(0)", x.waiting(0), NO);
        Due.is("close()", x.close(), NO);
        Due.is("out(0)", x.out(0), NONE);
        Due.is("set", x.set(0, 8), 8);
        Due.is("plant", x.plant(0, 0, 1, false), 1);
        Due.is("type", x.type(0), 1);
        Due.is("begin", x.begin(1), 1);
    }

    private static void typeCounts() {
        Due.sentence(2, "A byte (0 .. 255) more of THE TEXT: how many there are.");
        PackThreads x = new PackThreads();
        for (int n = 1; n <= 160; n++) {
            Due.is("type as number " + n, x.type(n), n);
        }
        PackThreads y = new PackThreads();
        Due.is("a byte again", y.type(0), 1);
        Due.is("a byte again", y.type(0), 2);
        Due.is("a byte again", y.type(0), 3);
        Due.plain("they are bytes of the text", y, 3, 0, 0, 0, 0);
    }

    private static void typeBad() {
        Due.sentence(2, "BAD; NO: BEGUN; FULL.");
        int[] wrong = {-1, 256, -256, 257, LEAST_INT, MOST_INT};
        PackThreads x = new PackThreads();
        PackThreads full = new PackThreads();
        typesRising(full, 160);
        PackThreads begun = new PackThreads();
        begun.begin(1);
        for (int v : wrong) {
            Due.is("type(" + v + ")", x.type(v), BAD);
            Due.is("BAD before FULL: type(" + v + ")", full.type(v), BAD);
            Due.is("BAD before NO: type(" + v + ")", begun.type(v), BAD);
        }
        Due.is("no byte came by that", x.clear(), 0);
        Due.is("no byte came by that", full.clear(), 160);
    }

    private static void typeNo() {
        Due.sentence(2, "NO: BEGUN");
        PackThreads x = new PackThreads();
        typesRising(x, 160);
        x.begin(1);
        Due.is("NO before FULL: type(0)", x.type(0), NO);
        Due.is("NO before FULL: type(255)", x.type(255), NO);
        PackThreads y = new PackThreads();
        y.type(5);
        y.begin(2);
        Due.is("begun", y.type(5), NO);
        y.close();
        Due.is("closed is begun still", y.type(5), NO);
        Due.is("no byte came by that", y.clear(), 1);
        Due.is("not begun any more", y.type(5), 1);
    }

    private static void typeFull() {
        Due.sentence(2, "FULL.");
        PackThreads x = new PackThreads();
        typesRising(x, 160);
        Due.is("type(0)", x.type(0), FULL);
        Due.is("type(255)", x.type(255), FULL);
        Due.is("the last byte is as it was", x.plain(198), 159);
        Due.is("20 blocks", x.begin(1), 20);
        x.clear();
        Due.is("room again", x.type(0), 1);
    }

    private static void setRanges() {
        Due.sentence(3, "0 SIZE, 1 WINDOW, 2 CELLS, 3 R");
        int[] least = {4, 0, 32, 1};
        int[] most = {32, 64, 200, 8};
        for (int what = 0; what < 4; what++) {
            PackThreads x = new PackThreads();
            Due.is("below the least of " + what, x.set(what, least[what] - 1), BAD);
            Due.is("above the most of " + what, x.set(what, most[what] + 1), BAD);
            Due.holds("the least of " + what, x.set(what, least[what]) >= 0);
            Due.is("the most of " + what, x.set(what, most[what]), least[what]);
            Due.is("the most again", x.set(what, most[what]), most[what]);
        }
    }

    private static void setTellsWhatItWas() {
        Due.sentence(3, "what it was.");
        int[] first = {8, 16, 64, 2};
        PackThreads x = new PackThreads();
        for (int what = 0; what < 4; what++) {
            Due.is("at first " + what, x.set(what, first[what] + 1), first[what]);
        }
        for (int what = 0; what < 4; what++) {
            Due.is("then " + what, x.set(what, first[what]), first[what] + 1);
        }
    }

    private static void setBad() {
        Due.sentence(3, "BAD; NO: BEGUN.");
        PackThreads x = new PackThreads();
        PackThreads begun = new PackThreads();
        begun.begin(1);
        int[] noSetting = {-1, 4, LEAST_INT, MOST_INT};
        for (int what : noSetting) {
            Due.is("set(" + what + ", 8)", x.set(what, 8), BAD);
            Due.is("set(" + what + ", 32)", x.set(what, 32), BAD);
            Due.is("BAD before NO: set(" + what + ", 8)", begun.set(what, 8), BAD);
        }
        int[] noValue = {-1, 201, LEAST_INT, MOST_INT};
        for (int v : noValue) {
            for (int what = 0; what < 4; what++) {
                Due.is("set(" + what + ", " + v + ")", x.set(what, v), BAD);
                Due.is("BAD before NO: set(" + what + ", " + v + ")", begun.set(what, v), BAD);
            }
        }
        int[] first = {8, 16, 64, 2};
        for (int what = 0; what < 4; what++) {
            Due.is("nothing changed " + what, x.set(what, first[what]), first[what]);
        }
    }

    private static void setNo() {
        Due.sentence(3, "NO: BEGUN.");
        int[] least = {4, 0, 32, 1};
        int[] most = {32, 64, 200, 8};
        int[] first = {8, 16, 64, 2};
        PackThreads x = new PackThreads();
        x.begin(1);
        for (int what = 0; what < 4; what++) {
            Due.is("the least of " + what, x.set(what, least[what]), NO);
            Due.is("the most of " + what, x.set(what, most[what]), NO);
        }
        x.clear();
        for (int what = 0; what < 4; what++) {
            Due.is("nothing changed " + what, x.set(what, first[what]), first[what]);
        }
    }

    private static void sizeRange() {
        Due.sentence(3, "SIZE (4 to 32; 8 at first)");
        PackThreads x = new PackThreads();
        Due.is("set(0, 3)", x.set(0, 3), BAD);
        Due.is("set(0, 33)", x.set(0, 33), BAD);
        Due.is("set(0, 4)", x.set(0, 4), 8);
        Due.is("set(0, 32)", x.set(0, 32), 4);
        Due.is("set(0, 31)", x.set(0, 31), 32);
        Due.is("set(0, 5)", x.set(0, 5), 31);
    }

    private static void sizeAtItsEnds() {
        Due.sentence(5, "It is cut into BLOCKS, 0, 1, .., of SIZE (4 to 32; 8 at first) bytes each");
        Due.is("160 bytes by 4", Make.apart(4, 64, 2, 160).begin(1), 40);
        Due.is("160 bytes by 32", Make.apart(32, 64, 2, 160).begin(1), 5);
        Due.plain("4 to a block", Make.packing(4, 0, "abcdefgh"),
                4, 97, 98, 99, 100, 0, 4, 101, 102, 103, 104, 0);
        PackThreads x = Make.apart(32, 64, 2, 64);
        Due.is("32 to block 0", x.plain(0), 32);
        Due.is("its end", x.plain(33), 0);
        Due.is("32 to block 1", x.plain(34), 32);
        Due.is("its end", x.plain(67), 0);
        Due.is("no more", x.plain(68), NONE);
    }

    private static void sizeAtFirst() {
        Due.sentence(5, "8 at first");
        PackThreads x = new PackThreads();
        Due.types(x, "abcdefghij");
        Due.plain("8 and 2", x, 8, 97, 98, 99, 100, 101, 102, 103, 104, 0, 2, 105, 106, 0);
        Due.is("begin", x.begin(1), 2);
    }

    private static void lastBlock() {
        Due.sentence(5, "the last one of what is left.");
        int[] lengths = {1, 7, 8, 9, 15, 16, 17, 159, 160};
        int[] blocks = {1, 1, 1, 2, 2, 2, 3, 20, 20};
        int[] ofLast = {1, 7, 8, 1, 7, 8, 1, 7, 8};
        for (int k = 0; k < lengths.length; k++) {
            String when = lengths[k] + " bytes";
            PackThreads x = new PackThreads();
            typesRising(x, lengths[k]);
            int start = (blocks[k] - 1) * 10;
            Due.is(when + ": bytes of the last block", x.plain(start), ofLast[k]);
            Due.is(when + ": its last byte", x.plain(start + ofLast[k]), lengths[k] - 1);
            Due.is(when + ": its end", x.plain(start + ofLast[k] + 1), 0);
            Due.is(when + ": no more", x.plain(start + ofLast[k] + 2), NONE);
            Due.is(when + ": begin", x.begin(1), blocks[k]);
        }
    }

    private static void noBlock() {
        Due.sentence(5, "how many BLOCKS.");
        PackThreads x = new PackThreads();
        Due.is("begin without a text", x.begin(6), 0);
        Due.told("no block", x, 0, 0, 0, 64, 0, 0, NONE, 0, 0, 0, 0);
        Due.is("all end", x.run(400), 6);
        PackThreads y = new PackThreads();
        y.type(0);
        Due.is("begin with one byte", y.begin(6), 1);
    }

    private static void clearIsNotBegun() {
        Due.sentence(15, "Not BEGUN any more");
        PackThreads x = Make.apart(4, 64, 2, 8);
        x.begin(2);
        x.run(3);
        x.clear();
        Due.is("turn(0)", x.turn(0), NO);
        Due.is("run(0)", x.run(0), NO);
        Due.is("interrupt(0)", x.interrupt(0), NO);
        Due.is("thread(0, 0)", x.thread(0, 0), NO);
        Due.is("told(0)", x.told(0), NO);
        Due.is("waiting(0)", x.waiting(0), NO);
        Due.is("close()", x.close(), NO);
        Due.is("out(0)", x.out(0), NONE);
        Due.is("set", x.set(0, 4), 4);
        Due.is("plant", x.plant(39, 31, 6, true), 1);
        Due.is("type", x.type(1), 1);
        Due.is("begin", x.begin(6), 1);
        Due.thread("a new one", x, 5, 0, NONE, NONE, 0, 0);
        Due.told("a new start", x, 1, 0, 0, 64, 0, 0, NONE, 0, 0, 0, 0);
    }

    /** An object that was used and cleared is as a new one with these settings. */
    private static void asNew(String when, PackThreads used, int size, int cells, int rowLimit) {
        used.clear();
        PackThreads fresh = Make.apart(size, cells, rowLimit, 0);
        for (PackThreads x : new PackThreads[] {used, fresh}) {
            typesRising(x, 40);
            x.plant(1, 1, 3, false);
            x.begin(3);
        }
        Alike.fromHereOn(when, used, fresh);
    }

    private static void clearLeavesNoneOfTheLine() {
        Due.sentence(15, "Not BEGUN any more");
        PackThreads x = Make.apart(32, 32, 1, 96);
        x.begin(3);
        x.interrupt(0);
        Due.turns("one works, one waits", x, 1, 2, 1);
        x.interrupt(1);
        Due.turns("one ends", x, 1, 0);
        Due.told("one waits", x, 3, 0, 0, 0, 1);
        asNew("behind a line", x, 32, 32, 1);
    }

    private static void clearLeavesNothingInTheRow() {
        Due.sentence(15, "Not BEGUN any more");
        PackThreads x = Make.apart(4, 64, 3, 24);
        x.begin(5);
        Due.turns("take", x, 1, 0, 1, 2, 3, 4);
        for (int number = 1; number <= 4; number++) {
            Due.steps("blocks 1 to 4 are made", x, number, 4);
        }
        Due.is("the row is full", x.told(5), 3);
        Due.is("one holds", x.thread(4, 0), 3);
        asNew("behind a full row", x, 4, 64, 3);
        PackThreads y = Make.apart(4, 64, 3, 24);
        y.begin(1);
        y.run(400);
        Due.is("all are joined", y.told(1), 6);
        asNew("behind a whole run", y, 4, 64, 3);
    }

    private static void clearLeavesNothingThatFailed() {
        Due.sentence(15, "Not BEGUN any more");
        PackThreads x = Make.apart(4, 64, 3, 24);
        for (int block = 0; block < 3; block++) {
            x.plant(block, 0, 1, false);
        }
        x.begin(3);
        Due.is("take and fail", x.run(6), 6);
        Due.is("three are to be done again", x.told(10), 3);
        asNew("behind failures", x, 4, 64, 3);
    }

    private static void clearLeavesNoStop() {
        Due.sentence(15, "Not BEGUN any more");
        PackThreads x = Make.apart(4, 64, 3, 24);
        x.plant(0, 0, 6, true);
        x.begin(2);
        x.run(400);
        Due.told("stopped", x, 6, 0, 0, 64, 0, 1, 0, 6, 2);
        asNew("behind a stop", x, 4, 64, 3);
    }

    private static void clearHasNothingPlanted() {
        Due.sentence(15, "nothing PLANTED");
        PackThreads x = new PackThreads();
        x.set(0, 4);
        int[] blocks = {0, 1, 39};
        for (int block : blocks) {
            x.plant(block, 0, 1, true);
        }
        x.clear();
        typesRising(x, 160);
        x.begin(1);
        x.run(400);
        Due.is("blocks 0, 1 and 39 did not fail", x.told(8), 0);
        Due.is("all are joined", x.told(1), 40);
    }

    private static void clearEmptiesTheText() {
        Due.sentence(15, "THE TEXT empty");
        PackThreads x = Make.packing(8, 16, "aaaa");
        x.clear();
        Due.is("plain(0)", x.plain(0), NONE);
        Due.is("begin", x.begin(1), 0);
        x.clear();
        Due.types(x, "aaa");
        Due.plain("nothing of the former text is copied", x, 3, 97, 97, 97, 0);
        x.clear();
        Due.is("clear of nothing", x.clear(), 0);
    }

    private static void clearKeepsSettings() {
        Due.sentence(15, "(SETTINGS stay)");
        int[] least = {4, 0, 32, 1};
        int[] most = {32, 64, 200, 8};
        PackThreads x = new PackThreads();
        for (int what = 0; what < 4; what++) {
            x.set(what, least[what]);
        }
        x.begin(1);
        x.clear();
        for (int what = 0; what < 4; what++) {
            Due.is("the least of " + what, x.set(what, most[what]), least[what]);
        }
        x.clear();
        for (int what = 0; what < 4; what++) {
            Due.is("the most of " + what, x.set(what, most[what]), most[what]);
        }
        Due.is("begin", x.begin(1), 0);
        Due.is("the most cells", x.told(3), 200);
    }

    private static void clearTellsHowMany() {
        Due.sentence(15, "how many bytes it had.");
        PackThreads x = new PackThreads();
        Due.is("a new object", x.clear(), 0);
        x.type(0);
        Due.is("one byte", x.clear(), 1);
        Due.is("again", x.clear(), 0);
        typesRising(x, 160);
        x.type(0);
        x.begin(1);
        Due.is("a full text, begun", x.clear(), 160);
        Due.is("again", x.clear(), 0);
    }
}
