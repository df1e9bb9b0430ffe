import java.util.Random;

/** Long runs of calls, wrong ones among them: the class answers as the model does, all promises. */
public final class ModelTest {
    private static final int RUNS = 6000;
    private static final int CALLS = 512;
    private static final int[] FAR = {Integer.MIN_VALUE, -1000, -2, -1, 7, 33, 40, 41, 65, 160, 161,
        201, 240, 241, 256, 401, 1 << 30, Integer.MAX_VALUE};

    private final Random random;
    private final PackThreads x = new PackThreads();
    private final Model model = new Model();
    private final int run;
    private int calls;

    private static int stops;
    private static int holds;
    private static int waits;
    private static int wholes;

    private ModelTest(int run) {
        this.run = run;
        this.random = new Random(run);
    }

    public static void main(String[] args) {
        for (int run = 0; run < RUNS; run++) {
            new ModelTest(run).play();
        }
        // The runs must come to what they are to test.
        Due.holds("runs stop, " + stops, stops > 50);
        Due.holds("threads hold, " + holds, holds > 50);
        Due.holds("threads wait, " + waits, waits > 50);
        Due.holds("texts are joined whole, " + wholes, wholes > 50);
        Due.finish();
    }

    private void play() {
        while (calls < CALLS) {
            prepare();
            int before = calls;
            int length = 20 + random.nextInt(200);
            while (calls < CALLS && calls - before < length) {
                oneCall();
            }
            look();
            if (random.nextInt(4) == 0) {
                same("close()", x.close(), model.close());
                look();
            }
            same("clear()", x.clear(), model.clear());
        }
    }

    private void prepare() {
        int most = random.nextInt(10) == 0 ? 165 : 5 + random.nextInt(100);
        int letters = 1 + random.nextInt(4);
        int[] least = {4, 0, 32, 1};
        int[] range = {29, 65, 60, 3};
        for (int what = 0; what < 4; what++) {
            if (random.nextInt(3) != 0) {
                int v = least[what] + random.nextInt(range[what]);
                same("set(" + what + ", " + v + ")", x.set(what, v), model.set(what, v));
            }
        }
        for (int k = random.nextInt(most); k > 0; k--) {
            int v = random.nextInt(6) == 0 ? random.nextInt(256) : 97 + random.nextInt(letters);
            same("type(" + v + ")", x.type(v), model.type(v));
        }
        for (int k = random.nextInt(5); k > 0; k--) {
            plant(random.nextInt(8), random.nextInt(6), 1 + random.nextInt(6));
        }
        int n = 1 + random.nextInt(6);
        if (random.nextInt(20) != 0) {
            same("begin(" + n + ")", x.begin(n), model.begin(n));
        }
    }

    private void oneCall() {
        int pick = random.nextInt(100);
        int a = number(6);
        int b = number(12);
        if (pick < 55) {
            same("turn(" + a + ")", x.turn(a), model.turn(a));
        } else if (pick < 65) {
            int n = number(12);
            same("run(" + n + ")", x.run(n), model.run(n));
        } else if (pick < 67) {
            same("interrupt(" + a + ")", x.interrupt(a), model.interrupt(a));
        } else if (pick < 75) {
            same("thread(" + a + ", " + b + ")", x.thread(a, b), model.thread(a, b));
        } else if (pick < 83) {
            same("told(" + b + ")", x.told(b), model.told(b));
        } else if (pick < 87) {
            same("waiting(" + a + ")", x.waiting(a), model.waiting(a));
        } else if (pick < 91) {
            int i = number(100);
            same("out(" + i + ")", x.out(i), model.out(i));
        } else if (pick < 95) {
            int i = number(100);
            same("plain(" + i + ")", x.plain(i), model.plain(i));
        } else {
            wrongTime(a, b);
        }
    }

    private void wrongTime(int a, int b) {
        switch (random.nextInt(4)) {
            case 0 -> same("type(" + b + ")", x.type(b), model.type(b));
            case 1 -> same("set(" + a + ", " + b + ")", x.set(a, b), model.set(a, b));
            case 2 -> plant(number(45), number(35), number(8));
            default -> same("begin(" + a + ")", x.begin(a), model.begin(a));
        }
    }

    private void plant(int block, int step, int kind) {
        boolean twice = random.nextInt(4) == 0;
        same("plant(" + block + ", " + step + ", " + kind + ", " + twice + ")",
                x.plant(block, step, kind, twice), model.plant(block, step, kind, twice));
    }

    private int number(int below) {
        return random.nextInt(25) == 0 ? FAR[random.nextInt(FAR.length)] : random.nextInt(below);
    }

    /** All that can be seen is the same. */
    private void look() {
        for (int what = 0; what < 11; what++) {
            same("told(" + what + ")", x.told(what), model.told(what));
        }
        for (int thread = 0; thread < 6; thread++) {
            same("waiting(" + thread + ")", x.waiting(thread), model.waiting(thread));
            for (int what = 0; what < 5; what++) {
                same("thread(" + thread + ", " + what + ")",
                        x.thread(thread, what), model.thread(thread, what));
            }
            holds += seen() && model.thread(thread, 0) == 3 ? 1 : 0;
        }
        stops += seen() && model.told(6) >= 0 ? 1 : 0;
        waits += seen() && model.told(4) > 0 ? 1 : 0;
        int joined = Math.max(0, model.told(2));
        for (int i = -1; i <= joined; i++) {
            same("out(" + i + ")", x.out(i), model.out(i));
        }
        wholes += seen() && model.told(0) > 0 && model.told(0) == model.told(1) ? 1 : 0;
    }

    private boolean seen() {
        return calls <= CALLS;
    }

    // What an object answers behind its last call is free.
    private void same(String call, int got, int want) {
        calls++;
        if (seen()) {
            Due.is("run " + run + ", call " + calls + ": " + call, got, want);
        }
    }
}
