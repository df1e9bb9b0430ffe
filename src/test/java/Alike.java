/** Two objects that are in the same state answer the same, now and from there on. */
final class Alike {
    private static final int NONE = PackThreads.NONE;

    private Alike() {
    }

    /** Begins both if they are not begun, runs them to their end, clears them and asks the settings. */
    static void fromHereOn(String when, PackThreads x, PackThreads y) {
        tell(when, x, y);
        Due.is(when + ": begin(2)", x.begin(2), y.begin(2));
        for (int k = 0; k < 5; k++) {
            Due.is(when + ": run(1) as number " + k, x.run(1), y.run(1));
        }
        tell(when + ", 5 turns later", x, y);
        Due.is(when + ": run(15)", x.run(15), y.run(15));
        tell(when + ", 20 turns later", x, y);
        Due.is(when + ": run(400)", x.run(400), y.run(400));
        tell(when + ", in the end", x, y);
        bytes(when + ", in the end", x, y);
        Due.is(when + ": clear()", x.clear(), y.clear());
        int[] most = {32, 64, 200, 8};
        for (int what = 0; what < most.length; what++) {
            Due.is(when + ": set(" + what + ") in the end", x.set(what, most[what]), y.set(what, most[what]));
        }
    }

    static void tell(String when, PackThreads x, PackThreads y) {
        for (int what = 0; what <= 10; what++) {
            Due.is(when + ": told(" + what + ")", x.told(what), y.told(what));
        }
        for (int number = 0; number < 4; number++) {
            Due.is(when + ": waiting(" + number + ")", x.waiting(number), y.waiting(number));
            for (int what = 0; what <= 4; what++) {
                Due.is(when + ": thread(" + number + ", " + what + ")",
                        x.thread(number, what), y.thread(number, what));
            }
        }
    }

    // An object is good for 512 calls, so a long pack is looked at in its first part.
    private static void bytes(String when, PackThreads x, PackThreads y) {
        int due = 0;
        for (int i = 0; i < 110 && due != NONE; i++) {
            due = y.plain(i);
            Due.is(when + ": plain(" + i + ")", x.plain(i), due);
        }
        due = 0;
        for (int i = 0; i < 50 && due != NONE; i++) {
            due = y.out(i);
            Due.is(when + ": out(" + i + ")", x.out(i), due);
        }
    }
}
