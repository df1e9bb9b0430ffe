/** The edges of packs, and of out and plain: promises 3, 10, 13, sentence by sentence. */
public final class PackEdgeTest {
    private static final int NONE = PackThreads.NONE, BAD = PackThreads.BAD;

    public static void main(String[] args) {
        fromTheFirstByte();
        ofTheMostBytes();
        threeOrMore();
        withinTheBlock();
        alikeOneByOne();
        distanceOneToWindow();
        windowRange();
        windowAtFirst();
        windowAtItsEnds();
        notBeforeTheFirstByte();
        intoWhatIsCopied();
        leastDistance();
        elseAByte();
        toldCopyLength();
        toldCopyDistance();
        toldBytes();
        toldEnd();
        outByte();
        outNone();
        plainOfAllBlocks();
        plainFollowsTheText();
        plainWhateverIsPlanted();
        plainNone();
        whateverTheTurns();
        Due.finish();
    }

    private static void is(String when, int size, int window, String text, int... want) {
        Due.plain(when, Make.packing(size, window, text), want);
    }

    private static void fromTheFirstByte() {
        Due.sentence(13, "THE PACK of a BLOCK is made of TOKENS, from its first byte on");
        is("no byte is put off for a longer copy", 32, 64, "abcXbcdefYabcdef",
                10, 97, 98, 99, 88, 98, 99, 100, 101, 102, 89, 128, 9, 128, 6, 0);
        is("a copy at the block's first byte", 4, 16, "abcdabcd",
                4, 97, 98, 99, 100, 0, 129, 3, 0);
        is("bytes begin anew with each block", 4, 16, "abcdef", 4, 97, 98, 99, 100, 0, 2, 101, 102, 0);
        is("a pack of one token", 4, 16, "a", 1, 97, 0);
    }

    private static void ofTheMostBytes() {
        Due.sentence(13, "at each place a COPY, if there is one, of the most bytes");
        is("4 bytes at 9, not 3 at 4", 32, 64, "abcdxabcyabcd",
                5, 97, 98, 99, 100, 120, 128, 4, 1, 121, 129, 8, 0);
        is("4 bytes at 4, not 3 at 9", 32, 64, "abcxyabcdabcd",
                5, 97, 98, 99, 120, 121, 128, 4, 1, 100, 129, 3, 0);
        is("one more at each distance", 32, 64, "abcdeVabcdWabcXabcde",
                6, 97, 98, 99, 100, 101, 86, 129, 5, 1, 87, 128, 4, 1, 88, 130, 14, 0);
    }

    private static void threeOrMore() {
        Due.sentence(13, "3 or more");
        is("2 are no copy", 8, 16, "abXab", 5, 97, 98, 88, 97, 98, 0);
        is("3 are one", 8, 16, "abcXabc", 4, 97, 98, 99, 88, 128, 3, 0);
        is("2 behind a byte", 8, 16, "aaa", 3, 97, 97, 97, 0);
        is("3 behind a byte", 8, 16, "aaaa", 1, 97, 128, 0, 0);
    }

    private static void withinTheBlock() {
        Due.sentence(13, "all of them within the BLOCK");
        is("2 of 4 alike are in the block", 4, 16, "abcdxyabcdzz",
                4, 97, 98, 99, 100, 0, 4, 120, 121, 97, 98, 0, 4, 99, 100, 122, 122, 0);
        is("3 of 4 alike are in the block", 4, 16, "abcdxabcdzzz",
                4, 97, 98, 99, 100, 0, 1, 120, 128, 4, 0, 4, 100, 122, 122, 122, 0);
        is("the last block has 2 bytes", 4, 16, "aaaaaa", 1, 97, 128, 0, 0, 2, 97, 97, 0);
        is("the last block has 3 bytes", 4, 16, "aaaaaaa", 1, 97, 128, 0, 0, 128, 0, 0);
    }

    private static void alikeOneByOne() {
        Due.sentence(13, "that are alike, one by one, with those DISTANCE before them");
        is("the third is another", 8, 16, "abcXabd", 7, 97, 98, 99, 88, 97, 98, 100, 0);
        is("the second is another", 16, 16, "abcdXaYcd", 9, 97, 98, 99, 100, 88, 97, 89, 99, 100, 0);
        is("the first is another", 16, 16, "abcXYbc", 7, 97, 98, 99, 88, 89, 98, 99, 0);
        is("0 and 255 are bytes as others", 16, 16, "\0\u00ff\0\u00ff\0\u00ff", 2, 0, 255, 129, 1, 0);
    }

    private static void distanceOneToWindow() {
        Due.sentence(13, "1 to WINDOW");
        is("distance 1", 8, 16, "aaaa", 1, 97, 128, 0, 0);
        is("distance of the window", 16, 5, "abcd-abcd", 5, 97, 98, 99, 100, 45, 129, 4, 0);
        is("distance of the window and 1", 16, 4, "abcd-abcd",
                9, 97, 98, 99, 100, 45, 97, 98, 99, 100, 0);
        is("no window", 8, 0, "aaaa", 4, 97, 97, 97, 97, 0);
        is("a window of 1", 8, 1, "aaaa", 1, 97, 128, 0, 0);
        is("distance 2 in a window of 1", 8, 1, "ababab", 6, 97, 98, 97, 98, 97, 98, 0);
        is("distance 2 in a window of 2", 8, 2, "ababab", 2, 97, 98, 129, 1, 0);
    }

    private static void windowRange() {
        Due.sentence(3, "0 to 64, 16 at first");
        PackThreads x = new PackThreads();
        Due.is("set(1, -1)", x.set(1, -1), BAD);
        Due.is("set(1, 65)", x.set(1, 65), BAD);
        Due.is("set(1, 0)", x.set(1, 0), 16);
        Due.is("set(1, 64)", x.set(1, 64), 0);
        Due.is("set(1, 63)", x.set(1, 63), 64);
        Due.is("set(1, 1)", x.set(1, 1), 63);
    }

    private static void windowAtFirst() {
        Due.sentence(13, "16 at first");
        PackThreads x = new PackThreads();
        x.set(0, 32);
        Due.types(x, "abc" + Make.rising(1, 13) + "abc");
        Due.is("16 bytes", x.plain(0), 16);
        Due.is("a copy", x.plain(17), 128);
        Due.is("at distance 16", x.plain(18), 15);
        Due.is("its end", x.plain(19), 0);
        x.clear();
        Due.types(x, "abc" + Make.rising(1, 14) + "abc");
        Due.is("none at distance 17", x.plain(0), 20);
        Due.is("its end", x.plain(21), 0);
        Due.is("no more", x.plain(22), NONE);
    }

    private static void windowAtItsEnds() {
        Due.sentence(13, "0 to 64");
        PackThreads x = Make.packing(32, 64, Make.rising(0, 63) + "\0\1\2");
        Due.is("a copy", x.plain(68), 128);
        Due.is("at distance 64", x.plain(69), 63);
        Due.is("its end", x.plain(70), 0);
        Due.is("no more", x.plain(71), NONE);
        PackThreads y = Make.packing(32, 64, Make.rising(0, 64) + "\0\1\2");
        Due.is("none at distance 65", y.plain(68), 4);
        Due.is("a byte", y.plain(69), 64);
        Due.is("its end", y.plain(73), 0);
        Due.is("no more", y.plain(74), NONE);
        is("none at distance 0", 8, 0, "aaaaaaaa", 8, 97, 97, 97, 97, 97, 97, 97, 97, 0);
    }

    private static void notBeforeTheFirstByte() {
        Due.sentence(13, "not before THE TEXT's first byte");
        is("from the first byte", 8, 16, "abcabc", 3, 97, 98, 99, 128, 2, 0);
        is("no 0 stands before it", 8, 16, "\0\0\0", 3, 0, 0, 0, 0);
        is("the first byte itself is no copy", 8, 64, "\0\0\0\0", 1, 0, 128, 0, 0);
        is("no 255 stands before it", 8, 64, "\u00ff\u00ff\u00ff", 3, 255, 255, 255, 0);
        PackThreads x = Make.packing(8, 64, "abcdefghabcdefgh");
        x.clear();
        Due.types(x, "abcdefgh");
        Due.plain("nor a former text", x, 8, 97, 98, 99, 100, 101, 102, 103, 104, 0);
    }

    private static void intoWhatIsCopied() {
        Due.sentence(13, "it may reach into what is copied");
        is("7 bytes at distance 1", 8, 16, "aaaaaaaa", 1, 97, 132, 0, 0);
        is("6 bytes at distance 2", 8, 16, "abababab", 2, 97, 98, 131, 1, 0);
        is("5 bytes at distance 3", 8, 16, "abcabcab", 3, 97, 98, 99, 130, 2, 0);
        is("4 bytes at distance 3", 8, 16, "abcabca", 3, 97, 98, 99, 129, 2, 0);
    }

    private static void leastDistance() {
        Due.sentence(13, "of the least such DISTANCE");
        is("at 4, not at 8", 32, 64, "abcxabcyabc", 4, 97, 98, 99, 120, 128, 3, 1, 121, 128, 3, 0);
        is("at 4, not at 8, before the block's end", 32, 64, "abcxabcyabcz",
                4, 97, 98, 99, 120, 128, 3, 1, 121, 128, 3, 1, 122, 0);
        is("at 1, not at 2", 8, 16, "aaaaaa", 1, 97, 130, 0, 0);
        is("at 4, not at 8 or 12", 4, 64, "abcdabcdabcdabcd",
                4, 97, 98, 99, 100, 0, 129, 3, 0, 129, 3, 0, 129, 3, 0);
    }

    private static void elseAByte() {
        Due.sentence(13, "else a BYTE.");
        is("no copy at all", 8, 64, "abcdefgh", 8, 97, 98, 99, 100, 101, 102, 103, 104, 0);
        is("one byte", 8, 64, "a", 1, 97, 0);
        is("bytes between copies", 16, 64, "aaaabaaaacaaaa",
                1, 97, 128, 0, 1, 98, 129, 4, 1, 99, 129, 4, 0);
    }

    private static void toldCopyLength() {
        Due.sentence(13, "Told: a COPY as 128 and its bytes less 3");
        is("3 bytes", 4, 16, "aaaa", 1, 97, 128, 0, 0);
        is("31 and 32 bytes", 32, 16, "a".repeat(64), 1, 97, 156, 0, 0, 157, 0, 0);
    }

    private static void toldCopyDistance() {
        Due.sentence(13, "then DISTANCE less 1");
        is("distance 1", 4, 16, "aaaa", 1, 97, 128, 0, 0);
        is("distance 2", 5, 16, "ababa", 2, 97, 98, 128, 1, 0);
        PackThreads x = Make.packing(32, 64, Make.rising(0, 63) + "\0\1\2\3");
        Due.is("4 bytes", x.plain(68), 129);
        Due.is("distance 64", x.plain(69), 63);
    }

    private static void toldBytes() {
        Due.sentence(13, "BYTES one behind the other as how many, then they");
        is("1", 8, 16, "z", 1, 122, 0);
        is("before and behind a copy", 16, 16, "abcabcxy", 3, 97, 98, 99, 128, 2, 2, 120, 121, 0);
        is("copy behind copy, no bytes between", 32, 64, "abcXdefYabcdef",
                8, 97, 98, 99, 88, 100, 101, 102, 89, 128, 7, 128, 6, 0);
        PackThreads x = Make.apart(32, 64, 2, 32);
        Due.is("32", x.plain(0), 32);
        for (int i = 0; i < 32; i++) {
            Due.is("byte " + i, x.plain(1 + i), i);
        }
        Due.is("its end", x.plain(33), 0);
    }

    private static void toldEnd() {
        Due.sentence(13, "at the end of the BLOCK 0.");
        is("behind bytes", 8, 16, "ab", 2, 97, 98, 0);
        is("behind a copy", 4, 16, "aaaa", 1, 97, 128, 0, 0);
        is("of each block", 4, 0, "abcdefghi",
                4, 97, 98, 99, 100, 0, 4, 101, 102, 103, 104, 0, 1, 105, 0);
        is("of no block there is none", 8, 16, "");
    }

    private static void outByte() {
        Due.sentence(10, "Byte i of what is JOINED");
        PackThreads x = Make.packing(4, 0, "\0\1\2\u00ff" + "efgh");
        x.begin(1);
        Due.is("block 0 is joined", x.run(5), 5);
        Due.out("block 0", x, 4, 0, 1, 2, 255, 0);
        Due.is("block 1 is made but for a byte", x.run(4), 4);
        Due.out("still block 0", x, 4, 0, 1, 2, 255, 0);
        Due.is("its last byte", x.run(1), 1);
        Due.out("both", x, 4, 0, 1, 2, 255, 0, 4, 101, 102, 103, 104, 0);
        PackThreads most = Make.apart(4, 64, 2, 160);
        most.begin(1);
        most.run(400);
        Due.is("the most bytes", most.told(2), 240);
        Due.is("the last of them", most.out(239), 0);
        Due.is("the one before it", most.out(238), 159);
        Due.is("behind it", most.out(240), NONE);
    }

    private static void outNone() {
        Due.sentence(10, "NONE.");
        PackThreads x = Make.apart(4, 64, 2, 8);
        Due.is("not begun", x.out(0), NONE);
        x.begin(2);
        Due.is("nothing is joined", x.out(0), NONE);
        Due.turns("block 1 comes into the row", x, 1, 0, 1, 1, 1, 1, 1);
        Due.is("in the row is not joined", x.out(0), NONE);
        Due.steps("block 0 is joined", x, 0, 4);
        int[] wrong = {-1, 12, 13, 240, Integer.MIN_VALUE, Integer.MAX_VALUE};
        for (int i : wrong) {
            Due.is("out(" + i + ")", x.out(i), NONE);
        }
        Due.is("out(0)", x.out(0), 4);
        Due.is("out(11)", x.out(11), 0);
        x.clear();
        Due.is("cleared", x.out(0), NONE);
    }

    private static void plainOfAllBlocks() {
        Due.sentence(13, "Byte i of the PACKS of all BLOCKS, as one THREAD makes them alone");
        PackThreads x = Make.packing(4, 16, "abcdabcde");
        int[] want = {4, 97, 98, 99, 100, 0, 129, 3, 0, 1, 101, 0};
        Due.plain("not begun", x, want);
        x.begin(3);
        Due.plain("begun", x, want);
        x.run(2);
        Due.plain("two are at work", x, want);
        x.run(400);
        Due.plain("all are joined", x, want);
        x.close();
        Due.plain("closed", x, want);
    }

    private static void plainFollowsTheText() {
        Due.sentence(13, "Byte i of the PACKS of all BLOCKS");
        PackThreads x = Make.packing(8, 16, "aaa");
        Due.plain("three bytes", x, 3, 97, 97, 97, 0);
        x.type('a');
        Due.plain("a byte more", x, 1, 97, 128, 0, 0);
        x.set(1, 0);
        Due.plain("without a window", x, 4, 97, 97, 97, 97, 0);
        x.type('b');
        x.set(0, 4);
        Due.plain("a block more", x, 4, 97, 97, 97, 97, 0, 1, 98, 0);
        Due.is("begin", x.begin(1), 2);
        Due.plain("begun", x, 4, 97, 97, 97, 97, 0, 1, 98, 0);
        x.clear();
        Due.plain("cleared", x);
    }

    private static void plainWhateverIsPlanted() {
        Due.sentence(13, "whatever is PLANTED");
        PackThreads x = Make.packing(4, 16, "abcdef");
        int[] want = {4, 97, 98, 99, 100, 0, 2, 101, 102, 0};
        x.plant(0, 0, 1, true);
        x.plant(1, 1, 2, false);
        Due.plain("planted", x, want);
        x.begin(2);
        x.run(400);
        Due.is("stopped", x.told(6), 0);
        Due.plain("stopped", x, want);
    }

    private static void plainNone() {
        Due.sentence(13, "(NONE: none such).");
        Due.is("no text", new PackThreads().plain(0), NONE);
        PackThreads x = Make.packing(8, 16, "abc");
        int[] wrong = {-1, 5, 6, 240, Integer.MIN_VALUE, Integer.MAX_VALUE};
        for (int i : wrong) {
            Due.is("plain(" + i + ")", x.plain(i), NONE);
        }
        Due.is("plain(0)", x.plain(0), 3);
        Due.is("plain(4)", x.plain(4), 0);
        PackThreads most = Make.apart(4, 64, 2, 160);
        Due.is("the last of the most", most.plain(239), 0);
        Due.is("behind the most", most.plain(240), NONE);
    }

    private static void whateverTheTurns() {
        Due.sentence(10, "the bytes are those of one thread, whatever the turns.");
        for (int threads = 1; threads <= 6; threads++) {
            PackThreads x = Make.packing(4, 16, "abcabcabcXYabcabcdefg");
            x.plant(1, 1, 3, false);
            x.begin(threads);
            // The last thread is ahead of the others.
            for (int k = 0; k < 30; k++) {
                x.turn(threads - 1);
            }
            x.run(400);
            Due.is("all are joined by " + threads, x.told(1), 6);
            for (int i = 0; i <= x.told(2); i++) {
                Due.is("out(" + i + ") by " + threads, x.out(i), x.plain(i));
            }
        }
    }
}
