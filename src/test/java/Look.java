/** What an object tells of its threads and its stream at one time. */
final class Look {
    static final int FREE = 0, WAITING = 1, WORK = 2, HOLDING = 3, ENDED = 4;

    final int[] state;
    final int[] block;
    final int[] step;
    final int[] made;
    final int joined;
    final int joinedBytes;
    final int cellsLeft;
    final int inRow;
    final int stoppedAt;
    final int failures;
    final int toBeDoneAgain;

    Look(PackThreads x, int threads) {
        state = new int[threads];
        block = new int[threads];
        step = new int[threads];
        made = new int[threads];
        for (int t = 0; t < threads; t++) {
            state[t] = x.thread(t, 0);
            block[t] = x.thread(t, 1);
            step[t] = x.thread(t, 2);
            made[t] = x.thread(t, 3);
        }
        joined = x.told(1);
        joinedBytes = x.told(2);
        cellsLeft = x.told(3);
        inRow = x.told(5);
        stoppedAt = x.told(6);
        failures = x.told(8);
        toBeDoneAgain = x.told(10);
    }

    int howMany(int what) {
        int count = 0;
        for (int s : state) {
            count += s == what ? 1 : 0;
        }
        return count;
    }

    int packsMade() {
        int sum = 0;
        for (int m : made) {
            sum += m;
        }
        return sum;
    }

    boolean isSame(Look other, int t) {
        return state[t] == other.state[t] && block[t] == other.block[t] && step[t] == other.step[t];
    }
}
