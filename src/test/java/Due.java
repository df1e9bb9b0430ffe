/** Counts and prints the answers that are not as due. */
final class Due {
    private static int asked = 0;
    private static int wrong = 0;
    private static int askedBefore = 0;
    private static String sentence = "";

    private Due() {
    }

    /**
     * What is asked from here on belongs to this sentence of the document, which is printed with
     * every wrong answer. It must stand under the promise, or where the document has its terms.
     */
    static void sentence(int promise, String words) {
        endSentence();
        sentence = "Promise " + promise + ", '" + words + "': ";
        holds("the document says so", Document.says(promise, words));
        askedBefore = asked;
    }

    // A sentence that nothing was asked for is not tested.
    private static void endSentence() {
        if (!sentence.isEmpty() && asked == askedBefore) {
            wrong++;
            System.out.println(sentence + "nothing was asked");
        }
    }

    static void is(String call, int got, int want) {
        asked++;
        if (got != want) {
            wrong++;
            System.out.println(sentence + call + " answered " + got + ", due is " + want);
        }
    }

    static void holds(String what, boolean so) {
        is(what, so ? 1 : 0, 1);
    }

    static void types(PackThreads x, String bytes) {
        for (int i = 0; i < bytes.length(); i++) {
            x.type(bytes.charAt(i));
        }
    }

    /** What told answers for 0, 1, .., in this order. */
    static void told(String when, PackThreads x, int... want) {
        for (int what = 0; what < want.length; what++) {
            is(when + ": told(" + what + ")", x.told(what), want[what]);
        }
    }

    /** What thread answers for 0, 1, .., in this order. */
    static void thread(String when, PackThreads x, int number, int... want) {
        for (int what = 0; what < want.length; what++) {
            is(when + ": thread(" + number + ", " + what + ")", x.thread(number, what), want[what]);
        }
    }

    /** The turns of these threads, one behind the other, all answer the same. */
    static void turns(String when, PackThreads x, int want, int... threads) {
        for (int k = 0; k < threads.length; k++) {
            is(when + ": turn(" + threads[k] + ") as number " + k, x.turn(threads[k]), want);
        }
    }

    /** So many turns of one thread, each of which does something. */
    static void steps(String when, PackThreads x, int thread, int howMany) {
        for (int k = 0; k < howMany; k++) {
            is(when + ": turn(" + thread + ") as number " + k, x.turn(thread), 1);
        }
    }

    static void plain(String when, PackThreads x, int... want) {
        for (int i = 0; i < want.length; i++) {
            is(when + ": plain(" + i + ")", x.plain(i), want[i]);
        }
        is(when + ": plain behind the end", x.plain(want.length), PackThreads.NONE);
    }

    static void out(String when, PackThreads x, int... want) {
        for (int i = 0; i < want.length; i++) {
            is(when + ": out(" + i + ")", x.out(i), want[i]);
        }
        is(when + ": out behind the end", x.out(want.length), PackThreads.NONE);
    }

    static void finish() {
        endSentence();
        System.out.println(asked + " answers, " + wrong + " not as due");
        if (wrong != 0 || asked == 0) {
            System.exit(1);
        }
    }
}
