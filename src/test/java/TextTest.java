/** Promises 1 to 3, 5 and 15: a new object, type, set, begin, clear. */
public final class TextTest {
    private static final int NONE = PackThreads.NONE, BAD = PackThreads.BAD;
    private static final int NO = PackThreads.NO, FULL = PackThreads.FULL;

    public static void main(String[] args) {
        newObject();
        type();
        settings();
        settingsCount();
        begin();
        clear();
        clearForgetsPlants();
        clearInTheMiddle();
        clearEmptiesTheRow();
        Due.finish();
    }

    private static void newObject() {
        PackThreads x = new PackThreads();
        Due.is("new: turn", x.turn(0), NO);
        Due.is("new: turn of the last that could be", x.turn(5), NO);
        Due.is("new: run", x.run(0), NO);
        Due.is("new: interrupt", x.interrupt(0), NO);
        Due.is("new: thread", x.thread(0, 0), NO);
        Due.is("new: told", x.told(0), NO);
        Due.is("new: waiting", x.waiting(0), NO);
        Due.is("new: waiting(-1)", x.waiting(-1), NO);
        Due.is("new: close", x.close(), NO);
        Due.is("new: out", x.out(0), NONE);
        Due.is("new: plain", x.plain(0), NONE);
        // BAD stands before NO.
        Due.is("new: turn(6)", x.turn(6), BAD);
        Due.is("new: turn(-1)", x.turn(-1), BAD);
        Due.is("new: run(401)", x.run(401), BAD);
        Due.is("new: run(-1)", x.run(-1), BAD);
        Due.is("new: interrupt(6)", x.interrupt(6), BAD);
        Due.is("new: interrupt(-1)", x.interrupt(-1), BAD);
        Due.is("new: thread(6, 0)", x.thread(6, 0), BAD);
        Due.is("new: thread(0, 5)", x.thread(0, 5), BAD);
        Due.is("new: told(11)", x.told(11), BAD);
        Due.is("new: told(-1)", x.told(-1), BAD);
        Due.is("new: clear", x.clear(), 0);
        Due.is("new: begin", x.begin(1), 0);
    }

    private static void type() {
        PackThreads x = new PackThreads();
        Due.is("type(-1)", x.type(-1), BAD);
        Due.is("type(256)", x.type(256), BAD);
        Due.is("type(0)", x.type(0), 1);
        Due.is("type(255)", x.type(255), 2);
        Due.plain("the ends of a byte", x, 2, 0, 255, 0);
        for (int n = 3; n <= 160; n++) {
            Due.is("type as number " + n, x.type(n), n);
        }
        Due.is("type as number 161", x.type(7), FULL);
        Due.is("type as number 162", x.type(7), FULL);
        Due.is("type(256) when full", x.type(256), BAD);
        Due.is("begin of a full text", x.begin(1), 20);
        Due.is("type when full and begun", x.type(7), NO);
        Due.is("type(-1) when begun", x.type(-1), BAD);
        Due.is("clear of a full text", x.clear(), 160);
        Due.is("type behind clear", x.type(7), 1);
    }

    private static void settings() {
        int[] first = {8, 16, 64, 2};
        int[] least = {4, 0, 32, 1};
        int[] most = {32, 64, 200, 8};
        PackThreads x = new PackThreads();
        for (int what = 0; what < 4; what++) {
            Due.is("set too low " + what, x.set(what, least[what] - 1), BAD);
            Due.is("set too high " + what, x.set(what, most[what] + 1), BAD);
            Due.is("set the least " + what, x.set(what, least[what]), first[what]);
            Due.is("set the most " + what, x.set(what, most[what]), least[what]);
            Due.is("set the first " + what, x.set(what, first[what]), most[what]);
        }
        Due.is("set(-1, 8)", x.set(-1, 8), BAD);
        Due.is("set(4, 8)", x.set(4, 8), BAD);
        x.begin(1);
        Due.is("set when begun", x.set(0, 9), NO);
        Due.is("set too low when begun", x.set(0, 3), BAD);
        Due.is("set(4, 8) when begun", x.set(4, 8), BAD);
        x.clear();
        Due.is("a refused set changed nothing", x.set(0, 8), 8);
    }

    private static void settingsCount() {
        PackThreads x = new PackThreads();
        Due.types(x, "0123456789");
        x.set(2, 50);
        x.set(0, 5);
        Due.is("blocks of 5", x.begin(1), 2);
        Due.is("50 cells", x.told(3), 50);
        x.clear();
        Due.types(x, "abcd-abcd");
        x.set(0, 32);
        x.set(1, 4);
        Due.plain("window 4 is too short", x, 9, 97, 98, 99, 100, 45, 97, 98, 99, 100, 0);
        x.set(1, 5);
        Due.plain("window 5 is enough", x, 5, 97, 98, 99, 100, 45, 129, 4, 0);
    }

    private static void begin() {
        PackThreads x = new PackThreads();
        Due.is("begin(0)", x.begin(0), BAD);
        Due.is("begin(7)", x.begin(7), BAD);
        Due.types(x, "12345678");
        Due.is("begin of one whole block", x.begin(6), 1);
        Due.is("begin again", x.begin(6), NO);
        Due.is("begin(7) again", x.begin(7), BAD);
        for (int number = 0; number < 6; number++) {
            Due.thread("begun", x, number, 0, NONE, NONE, 0, 0);
        }
        Due.told("begun", x, 1, 0, 0, 64, 0, 0, NONE, 0, 0, 0, 0);
        x.clear();
        Due.types(x, "123456789");
        Due.is("begin of a block and one byte", x.begin(2), 2);
        Due.is("turn of the last", x.turn(1), 1);
        Due.is("turn behind the last", x.turn(2), BAD);
        Due.is("interrupt behind the last", x.interrupt(2), BAD);
        Due.is("thread behind the last", x.thread(2, 0), BAD);
        x.clear();
        x.set(0, 4);
        for (int n = 0; n < 160; n++) {
            x.type(n);
        }
        Due.is("begin with the most blocks", x.begin(6), 40);
    }

    private static void clear() {
        PackThreads x = new PackThreads();
        x.set(0, 4);
        x.set(1, 3);
        x.set(2, 33);
        x.set(3, 5);
        Due.types(x, "abcabcabc");
        x.begin(2);
        x.run(400);
        Due.is("all joined", x.told(1), 3);
        Due.is("clear", x.clear(), 9);
        Due.is("clear: told", x.told(0), NO);
        Due.is("clear: out", x.out(0), NONE);
        Due.is("clear: plain", x.plain(0), NONE);
        Due.is("clear again", x.clear(), 0);
        Due.is("SIZE stays", x.set(0, 4), 4);
        Due.is("WINDOW stays", x.set(1, 3), 3);
        Due.is("CELLS stay", x.set(2, 33), 33);
        Due.is("R stays", x.set(3, 5), 5);
        Due.types(x, "z");
        Due.is("begin behind clear", x.begin(3), 1);
        Due.told("begun behind clear", x, 1, 0, 0, 33, 0, 0, NONE, 0, 0, 0, 0);
        Due.thread("begun behind clear", x, 0, 0, NONE, NONE, 0, 0);
        Due.out("begun behind clear", x);
        Due.is("the ring is new", x.run(1), 1);
        Due.thread("the ring is new", x, 0, 2, 0, 0, 0, 0);
    }

    private static void clearForgetsPlants() {
        PackThreads x = new PackThreads();
        x.plant(0, 0, 1, true);
        x.clear();
        Due.types(x, "a");
        x.begin(1);
        x.run(400);
        Due.is("nothing is planted behind clear", x.told(8), 0);
        x.clear();
        x.plant(0, 0, 3, true);
        Due.types(x, "a");
        x.begin(2);
        x.run(400);
        Due.is("stopped", x.told(6), 0);
        x.clear();
        Due.types(x, "a");
        x.begin(2);
        Due.told("behind a stop and clear", x, 1, 0, 0, 64, 0, 0, NONE, 0, 0, 0, 0);
        x.run(400);
        Due.is("joined behind a stop and clear", x.told(1), 1);
    }

    private static void clearInTheMiddle() {
        PackThreads x = new PackThreads();
        x.set(0, 4);
        x.set(1, 0);
        x.set(2, 32);
        Due.types(x, "abcdefghijkl");
        x.plant(0, 0, 1, false);
        x.begin(3);
        x.interrupt(2);
        Due.turns("take, take, 0 fails", x, 1, 0, 1, 0);
        Due.turns("block 1 is made", x, 1, 1, 1, 1, 1);
        Due.told("in the middle", x, 3, 0, 0, 32, 0, 1, NONE, 0, 1, 7, 1);
        Due.is("clear", x.clear(), 12);

        Due.types(x, "abcdefghijkl");
        x.plant(0, 0, 1, false);
        x.begin(3);
        Due.told("begun anew", x, 3, 0, 0, 32, 0, 0, NONE, 0, 0, 0, 0);
        Due.is("none is interrupted", x.interrupt(2), 1);
        Due.is("take, take, end", x.run(3), 3);
        Due.turns("0 fails for the first time", x, 1, 0);
        Due.told("not stopped", x, 3, 0, 0, 28, 0, 0, NONE, 0, 1, 4, 1);
        Due.is("the rest", x.run(400), 16);
        Due.told("joined", x, 3, 3, 18, 32, 0, 0, NONE, 0, 1, 20, 0);
        x.clear();

        x.set(0, 32);
        Due.types(x, "0123456789".repeat(10));
        x.begin(3);
        Due.turns("one works, two wait", x, 1, 0, 1, 2);
        Due.is("two wait", x.told(4), 2);
        Due.is("clear", x.clear(), 100);
        Due.types(x, "abcd");
        x.begin(1);
        Due.told("no line is left", x, 1, 0, 0, 32, 0, 0, NONE, 0, 0, 0, 0);
        Due.is("none waits", x.waiting(0), NONE);
        Due.is("take", x.run(1), 1);
        Due.thread("at work", x, 0, 2, 0, 0, 0, 0);
    }

    private static void clearEmptiesTheRow() {
        PackThreads x = new PackThreads();
        x.set(0, 4);
        x.set(1, 0);
        Due.types(x, "abcdefgh");
        x.begin(2);
        Due.turns("block 1 is made before block 0", x, 1, 0, 1, 1, 1, 1, 1);
        Due.is("it is in the row", x.told(5), 1);
        x.clear();
        Due.types(x, "ABCDEFGH");
        x.begin(1);
        Due.is("block 0 is made", x.run(5), 5);
        Due.told("it alone is joined", x, 2, 1, 6, 64, 0, 0);
        Due.out("it alone is joined", x, 4, 65, 66, 67, 68, 0);
    }
}
