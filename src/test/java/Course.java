import java.util.Random;

/**
 * A text, settings, failures and a row of turns, all from one number. An object is good for few
 * calls: so a look at each state makes a new object and plays the turns up to there once more.
 */
final class Course {
    static final int MOST_TURNS = 200;

    final int bytes;
    final int size;
    final int cells;
    final int rowLimit;
    final int threads;
    final String text;
    private final int[][] failures;
    private final int[] turns = new int[MOST_TURNS];
    private final int interrupted;
    private final int interruptedAt;

    Course(int seed) {
        Random random = new Random(seed);
        size = 4 + random.nextInt(12);
        cells = 32 + random.nextInt(16);
        rowLimit = 1 + random.nextInt(3);
        threads = 1 + random.nextInt(6);
        bytes = random.nextInt(90);
        StringBuilder typed = new StringBuilder();
        int letters = 2 + random.nextInt(3);
        for (int i = 0; i < bytes; i++) {
            typed.append((char) ('a' + random.nextInt(letters)));
        }
        text = typed.toString();
        failures = new int[random.nextInt(5)][];
        for (int k = 0; k < failures.length; k++) {
            failures[k] = new int[] {random.nextInt(6), random.nextInt(4), 1 + random.nextInt(6),
                random.nextInt(5)};
        }
        // Some threads come by more often than others.
        int favourite = random.nextInt(threads);
        for (int k = 0; k < turns.length; k++) {
            turns[k] = random.nextInt(3) == 0 ? favourite : random.nextInt(threads);
        }
        interrupted = random.nextInt(2) == 0 ? random.nextInt(threads) : -1;
        interruptedAt = random.nextInt(60);
    }

    /** Whose turn it is behind so many turns. */
    int next(int played) {
        return turns[played];
    }

    /** Which thread is interrupted before the turn behind so many, -1 if none is. */
    int interruptedBefore(int played) {
        return played == interruptedAt ? interrupted : -1;
    }

    PackThreads begun() {
        PackThreads x = new PackThreads();
        x.set(0, size);
        x.set(2, cells);
        x.set(3, rowLimit);
        Due.types(x, text);
        for (int[] f : failures) {
            x.plant(f[0], f[1], f[2], f[3] == 0);
        }
        x.begin(threads);
        return x;
    }

    PackThreads behind(int played) {
        PackThreads x = begun();
        for (int k = 0; k < played; k++) {
            if (interruptedBefore(k) >= 0) {
                x.interrupt(interruptedBefore(k));
            }
            x.turn(turns[k]);
        }
        return x;
    }

    int bytesOf(int block) {
        return Math.min(size, bytes - block * size);
    }
}
