/** Promises 10 and 13: out and plain, the bytes of packs. */
public final class PackTest {
    private static final int NONE = PackThreads.NONE;

    public static void main(String[] args) {
        plainPacks();
        whichCopy();
        windows();
        wrongPlaces();
        plainFollowsTextAndSettings();
        outGrowsByBlocks();
        outStays();
        plainWhateverIsPlanted();
        everyPackUnpacks();
        Due.finish();
    }

    private static PackThreads of(int size, int window, String bytes) {
        PackThreads x = new PackThreads();
        x.set(0, size);
        x.set(1, window);
        Due.types(x, bytes);
        return x;
    }

    private static void plainPacks() {
        Due.plain("no text", of(8, 16, ""));
        Due.plain("one byte", of(8, 16, "a"), 1, 97, 0);
        Due.plain("two alike are no copy", of(8, 16, "abab"), 4, 97, 98, 97, 98, 0);
        Due.plain("three alike are one", of(8, 16, "aaaa"), 1, 97, 128, 0, 0);
        Due.plain("into what is copied", of(8, 16, "abababab"), 2, 97, 98, 131, 1, 0);
        Due.plain("bytes, copy, bytes", of(16, 16, "abcabcxy"),
                3, 97, 98, 99, 128, 2, 2, 120, 121, 0);
        Due.plain("a copy reaches back", of(4, 16, "abcdabcd"),
                4, 97, 98, 99, 100, 0, 129, 3, 0);
        Due.plain("a copy ends with its block", of(4, 16, "aaaaaaaaa"),
                1, 97, 128, 0, 0, 129, 0, 0, 1, 97, 0);
        Due.plain("bytes end with their block", of(4, 16, "abcdef"),
                4, 97, 98, 99, 100, 0, 2, 101, 102, 0);
        Due.plain("the longest copies", of(32, 16, "a".repeat(64)),
                1, 97, 156, 0, 0, 157, 0, 0);
    }

    private static void whichCopy() {
        Due.plain("of one length the nearest", of(32, 64, "abcxabcyabc"),
                4, 97, 98, 99, 120, 128, 3, 1, 121, 128, 3, 0);
        Due.plain("the longest before the nearest", of(32, 64, "abcdxabcyabcd"),
                5, 97, 98, 99, 100, 120, 128, 4, 1, 121, 129, 8, 0);
        Due.plain("no byte is put off for a longer copy", of(32, 64, "abcXbcdefYabcdef"),
                10, 97, 98, 99, 88, 98, 99, 100, 101, 102, 89, 128, 9, 128, 6, 0);
        Due.plain("copy behind copy", of(32, 64, "abcabcdabcd"),
                3, 97, 98, 99, 128, 2, 1, 100, 129, 3, 0);
    }

    private static void windows() {
        Due.plain("window 0", of(8, 0, "aaaa"), 4, 97, 97, 97, 97, 0);
        Due.plain("window 1", of(8, 1, "aaaa"), 1, 97, 128, 0, 0);
        Due.plain("window 1 sees no pairs", of(8, 1, "ababab"), 6, 97, 98, 97, 98, 97, 98, 0);
        StringBuilder far = new StringBuilder();
        for (int i = 0; i < 64; i++) {
            far.append((char) i);
        }
        far.append("\0\1\2");
        PackThreads x = of(32, 64, far.toString());
        Due.is("distance 64", x.plain(68), 128);
        Due.is("distance 64 less 1", x.plain(69), 63);
        Due.is("its block's end", x.plain(70), 0);
        Due.is("its end", x.plain(71), NONE);
        x.set(1, 63);
        Due.is("distance 64 is behind window 63", x.plain(68), 3);
        Due.is("so bytes are told", x.plain(71), 2);
        Due.is("and their end", x.plain(73), NONE);
    }

    private static void wrongPlaces() {
        PackThreads x = of(8, 16, "abc");
        x.begin(1);
        x.run(400);
        int[] wrong = {-1, -2, 5, 240, 241, 1000, Integer.MIN_VALUE, Integer.MAX_VALUE};
        for (int i : wrong) {
            Due.is("out(" + i + ")", x.out(i), NONE);
            Due.is("plain(" + i + ")", x.plain(i), NONE);
        }
        Due.is("out(4)", x.out(4), 0);
        Due.is("plain(4)", x.plain(4), 0);
        PackThreads y = of(4, 0, "abcd".repeat(40));
        y.begin(6);
        y.run(400);
        Due.is("the longest pack", y.told(2), 240);
        Due.is("its last byte", y.out(239), 0);
        Due.is("the byte before", y.out(238), 100);
        Due.is("behind it", y.out(240), NONE);
        Due.is("plain behind it", y.plain(240), NONE);
    }

    private static void plainFollowsTextAndSettings() {
        PackThreads x = of(8, 16, "aaa");
        Due.plain("three", x, 3, 97, 97, 97, 0);
        x.type('a');
        Due.plain("four", x, 1, 97, 128, 0, 0);
        x.set(1, 0);
        Due.plain("without window", x, 4, 97, 97, 97, 97, 0);
        x.set(0, 4);
        x.type('b');
        Due.plain("blocks of four", x, 4, 97, 97, 97, 97, 0, 1, 98, 0);
        x.begin(2);
        Due.is("refused", x.type('c'), PackThreads.NO);
        Due.is("refused", x.set(1, 16), PackThreads.NO);
        Due.plain("when begun", x, 4, 97, 97, 97, 97, 0, 1, 98, 0);
        x.clear();
        Due.plain("behind clear", x);
    }

    private static void outGrowsByBlocks() {
        PackThreads x = of(4, 0, "abcdefgh");
        x.begin(2);
        Due.turns("both take", x, 1, 0, 1);
        Due.turns("block 1 is made first", x, 1, 1, 1, 1, 1);
        Due.is("it is in the row", x.told(5), 1);
        Due.out("nothing is joined", x);
        Due.turns("block 0 is half made", x, 1, 0, 0, 0);
        Due.out("nothing is joined yet", x);
        Due.turns("block 0 is made", x, 1, 0);
        Due.out("both are joined", x, 4, 97, 98, 99, 100, 0, 4, 101, 102, 103, 104, 0);
        Due.told("both are joined", x, 2, 2, 12, 64, 0, 0);
    }

    private static void outStays() {
        PackThreads x = of(4, 0, "abcdef");
        x.begin(1);
        Due.is("block 0, then block 1 is taken", x.run(6), 6);
        Due.out("block 0", x, 4, 97, 98, 99, 100, 0);
        Due.is("close", x.close(), 1);
        Due.out("block 0 behind close", x, 4, 97, 98, 99, 100, 0);
        x.clear();
        Due.out("nothing behind clear", x);
    }

    private static void plainWhateverIsPlanted() {
        PackThreads x = of(4, 0, "abcdef");
        x.plant(0, 2, 1, true);
        Due.plain("planted", x, 4, 97, 98, 99, 100, 0, 2, 101, 102, 0);
        x.begin(3);
        x.run(400);
        Due.is("stopped", x.told(6), 0);
        Due.plain("stopped", x, 4, 97, 98, 99, 100, 0, 2, 101, 102, 0);
        Due.out("stopped", x);
    }

    private static void everyPackUnpacks() {
        int seed = 12345;
        for (int round = 0; round < 200; round++) {
            PackThreads x = new PackThreads();
            StringBuilder text = new StringBuilder();
            seed = seed * 1103515245 + 12345;
            int length = (seed >>> 16) % 161;
            int letters = 1 + (seed >>> 8) % 5;
            for (int i = 0; i < length; i++) {
                seed = seed * 1103515245 + 12345;
                text.append((char) (250 + (seed >>> 16) % Math.max(1, letters)));
            }
            x.set(0, 4 + round % 29);
            x.set(1, round % 65);
            Due.types(x, text.toString());
            Due.holds("round " + round + " unpacks", text.toString().equals(new Unpack(x).text()));
        }
    }
}
