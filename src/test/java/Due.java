/** Counts and prints the answers that are not as due. */
final class Due {
    private static int asked = 0;
    private static int wrong = 0;

    private Due() {
    }

    static void is(String call, int got, int want) {
        asked++;
        if (got != want) {
            wrong++;
            System.out.println(call + " answered " + got + ", due is " + want);
        }
    }

    static void holds(String what, boolean so) {
        is(what, so ? 1 : 0, 1);
    }

    static void types(PackThreads x, String bytes) {
        for (int i = 0; i < bytes.length(); i++) {
            x.type(bytes.charAt(i));
        }
    }

    /** What told answers for 0, 1, .., in this order. */
    static void told(String when, PackThreads x, int... want) {
        for (int what = 0; what < want.length; what++) {
            is(when + ": told(" + what + ")", x.told(what), want[what]);
        }
    }

    /** What thread answers for 0, 1, .., in this order. */
    static void thread(String when, PackThreads x, int number, int... want) {
        for (int what = 0; what < want.length; what++) {
            is(when + ": thread(" + number + ", " + what + ")", x.thread(number, what), want[what]);
        }
    }

    /** The turns of these threads, one behind the other, all answer the same. */
    static void turns(String when, PackThreads x, int want, int... threads) {
        for (int k = 0; k < threads.length; k++) {
            is(when + ": turn(" + threads[k] + ") as number " + k, x.turn(threads[k]), want);
        }
    }

    static void plain(String when, PackThreads x, int... want) {
        for (int i = 0; i < want.length; i++) {
            is(when + ": plain(" + i + ")", x.plain(i), want[i]);
        }
        is(when + ": plain behind the end", x.plain(want.length), PackThreads.NONE);
    }

    static void out(String when, PackThreads x, int... want) {
        for (int i = 0; i < want.length; i++) {
            is(when + ": out(" + i + ")", x.out(i), want[i]);
        }
        is(when + ": out behind the end", x.out(want.length), PackThreads.NONE);
    }

    static void finish() {
        System.out.println(asked + " answers, " + wrong + " not as due");
        if (wrong != 0 || asked == 0) {
            System.exit(1);
        }
    }
}
