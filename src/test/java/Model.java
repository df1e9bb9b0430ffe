import java.util.ArrayDeque;
import java.util.ArrayList;
import java.util.Deque;
import java.util.HashMap;
import java.util.HashSet;
import java.util.List;
import java.util.Map;
import java.util.Set;
import java.util.TreeMap;

/**
 * The document once more, in another way than the class: here every thread makes its tokens
 * itself at its turns, and the bytes that are joined are those that the threads made.
 */
final class Model {
    private enum State { FREE, WAITING, WORK, HOLDING, ENDED }

    private record Failure(int step, int kind, boolean twice) {
    }

    private static final class Member {
        State state = State.FREE;
        int block = -1;
        int step = -1;
        int place;
        final List<Integer> pack = new ArrayList<>();
        final List<Integer> open = new ArrayList<>();
        int made;
        int ends;
        boolean interrupted;
    }

    private final int[] settings = {8, 16, 64, 2};
    private final List<Integer> text = new ArrayList<>();
    private final Map<Integer, Failure> planted = new HashMap<>();
    private boolean begun;
    private List<Member> members = new ArrayList<>();
    private Deque<Member> line = new ArrayDeque<>();
    private Deque<Integer> again = new ArrayDeque<>();
    private Set<Integer> failedOnce = new HashSet<>();
    private Map<Integer, List<Integer>> row = new TreeMap<>();
    private List<Integer> joined = new ArrayList<>();
    private int joinedBlocks;
    private int untaken;
    private int left;
    private int stop = -1;
    private int stopKind;
    private int failures;
    private int did;
    private int ring;

    int type(int v) {
        if (v < 0 || v > 255) {
            return -2;
        }
        if (begun) {
            return -3;
        }
        if (text.size() == 160) {
            return -4;
        }
        text.add(v);
        return text.size();
    }

    int set(int what, int v) {
        boolean good = switch (what) {
            case 0 -> v >= 4 && v <= 32;
            case 1 -> v >= 0 && v <= 64;
            case 2 -> v >= 32 && v <= 200;
            case 3 -> v >= 1 && v <= 8;
            default -> false;
        };
        if (!good) {
            return -2;
        }
        if (begun) {
            return -3;
        }
        int was = settings[what];
        settings[what] = v;
        return was;
    }

    int plant(int block, int step, int kind, boolean twice) {
        if (block < 0 || block > 39 || step < 0 || step > 31 || kind < 1 || kind > 6) {
            return -2;
        }
        if (begun) {
            return -3;
        }
        planted.put(block, new Failure(step, kind, twice));
        return 1;
    }

    int begin(int n) {
        if (n < 1 || n > 6) {
            return -2;
        }
        if (begun) {
            return -3;
        }
        begun = true;
        members = new ArrayList<>();
        for (int k = 0; k < n; k++) {
            members.add(new Member());
        }
        line = new ArrayDeque<>();
        again = new ArrayDeque<>();
        failedOnce = new HashSet<>();
        row = new TreeMap<>();
        joined = new ArrayList<>();
        joinedBlocks = 0;
        untaken = 0;
        left = settings[2];
        stop = -1;
        stopKind = 0;
        failures = 0;
        did = 0;
        ring = 0;
        return blocks();
    }

    int turn(int thread) {
        if (noThread(thread)) {
            return -2;
        }
        return begun ? step(thread) : -3;
    }

    int run(int n) {
        if (n < 0 || n > 400) {
            return -2;
        }
        if (!begun) {
            return -3;
        }
        int before = did;
        while (n-- > 0 && members.stream().anyMatch(m -> m.state != State.ENDED)) {
            step(ring);
        }
        return did - before;
    }

    int interrupt(int thread) {
        if (noThread(thread)) {
            return -2;
        }
        if (!begun) {
            return -3;
        }
        Member m = members.get(thread);
        if (m.interrupted || m.state == State.ENDED) {
            return 0;
        }
        m.interrupted = true;
        return 1;
    }

    int thread(int thread, int what) {
        if (noThread(thread) || what < 0 || what > 4) {
            return -2;
        }
        if (!begun) {
            return -3;
        }
        Member m = members.get(thread);
        boolean has = m.state != State.FREE && m.state != State.ENDED;
        return switch (what) {
            case 0 -> m.state.ordinal();
            case 1 -> has ? m.block : -1;
            case 2 -> m.state == State.WORK ? m.step : -1;
            case 3 -> m.made;
            default -> m.ends;
        };
    }

    int out(int i) {
        return begun && i >= 0 && i < joined.size() ? joined.get(i) : -1;
    }

    int told(int what) {
        if (what < 0 || what > 10) {
            return -2;
        }
        if (!begun) {
            return -3;
        }
        int[] all = {blocks(), joinedBlocks, joined.size(), left, line.size(), row.size(), stop,
            stopKind, failures, did, again.size()};
        return all[what];
    }

    int waiting(int k) {
        if (!begun) {
            return -3;
        }
        return k < 0 || k >= line.size() ? -1 : members.indexOf(new ArrayList<>(line).get(k));
    }

    int plain(int i) {
        List<Integer> all = new ArrayList<>();
        for (int block = 0; block < blocks(); block++) {
            Member alone = new Member();
            alone.block = block;
            startWork(alone);
            while (!makeToken(alone)) {
                alone.step++;
            }
            all.addAll(alone.pack);
        }
        return i >= 0 && i < all.size() ? all.get(i) : -1;
    }

    int close() {
        if (!begun) {
            return -3;
        }
        int count = 0;
        for (Member m : members) {
            if (m.state == State.ENDED) {
                continue;
            }
            if (m.state == State.WORK) {
                left += need(m.block);
            }
            end(m);
            count++;
        }
        line.clear();
        return count;
    }

    int clear() {
        int had = text.size();
        text.clear();
        planted.clear();
        begun = false;
        return had;
    }

    private boolean noThread(int thread) {
        return thread < 0 || thread >= (begun ? members.size() : 6);
    }

    private int blocks() {
        return (int) Math.ceil(text.size() / (double) settings[0]);
    }

    private int need(int block) {
        return Math.min(text.size(), (block + 1) * settings[0]) - block * settings[0];
    }

    private int step(int thread) {
        ring = (thread + 1) % members.size();
        Member m = members.get(thread);
        boolean something = switch (m.state) {
            case FREE -> free(m);
            case WORK -> work(m);
            case HOLDING -> holding(m);
            case WAITING, ENDED -> false;
        };
        did += something ? 1 : 0;
        return something ? 1 : 0;
    }

    private boolean free(Member m) {
        if (m.interrupted || stop >= 0 || joinedBlocks == blocks()) {
            end(m);
            return true;
        }
        boolean anyAtWork = members.stream().anyMatch(o -> o.state == State.WORK);
        if (!again.isEmpty()) {
            if (anyAtWork) {
                return false;
            }
            take(m, again.removeFirst());
            return true;
        }
        if (members.stream().anyMatch(o -> o.state == State.WORK && failedOnce.contains(o.block))) {
            return false;
        }
        if (untaken == blocks()) {
            return false;
        }
        take(m, untaken++);
        return true;
    }

    private void take(Member m, int block) {
        m.block = block;
        if (line.isEmpty() && need(block) <= left) {
            left -= need(block);
            startWork(m);
        } else {
            m.state = State.WAITING;
            line.addLast(m);
        }
    }

    private void startWork(Member m) {
        m.state = State.WORK;
        m.step = 0;
        m.place = m.block * settings[0];
        m.pack.clear();
        m.open.clear();
    }

    private boolean work(Member m) {
        Failure f = planted.get(m.block);
        boolean second = failedOnce.contains(m.block);
        if (f != null && f.step() == m.step && (!second || f.twice())) {
            failures++;
            m.state = State.FREE;
            giveBack(need(m.block));
            if (second) {
                stop = m.block;
                stopKind = f.kind();
            } else {
                failedOnce.add(m.block);
                again.addLast(m.block);
            }
            return true;
        }
        boolean last = makeToken(m);
        m.step++;
        if (last) {
            m.made++;
            m.state = State.HOLDING;
            giveBack(need(m.block));
            lay(m);
        }
        return true;
    }

    private void giveBack(int cells) {
        left += cells;
        while (!line.isEmpty() && need(line.getFirst().block) <= left) {
            Member first = line.removeFirst();
            left -= need(first.block);
            startWork(first);
        }
    }

    private boolean holding(Member m) {
        if (stop >= 0) {
            end(m);
            return true;
        }
        return lay(m);
    }

    private boolean lay(Member m) {
        if (m.block != joinedBlocks && row.size() >= settings[3]) {
            return false;
        }
        row.put(m.block, new ArrayList<>(m.pack));
        m.state = State.FREE;
        while (row.containsKey(joinedBlocks)) {
            joined.addAll(row.remove(joinedBlocks));
            joinedBlocks++;
        }
        return true;
    }

    private void end(Member m) {
        m.state = State.ENDED;
        m.ends++;
    }

    /** True if it was the last one of the block. */
    private boolean makeToken(Member m) {
        int to = m.block * settings[0] + need(m.block);
        int most = 0;
        int nearest = 0;
        // From far to near, so that of two alike the nearer one stays.
        for (int distance = Math.min(settings[1], m.place); distance >= 1; distance--) {
            int n = 0;
            while (m.place + n < to
                    && text.get(m.place + n).equals(text.get(m.place + n - distance))) {
                n++;
            }
            if (n >= 3 && n >= most) {
                most = n;
                nearest = distance;
            }
        }
        if (most == 0) {
            m.open.add(text.get(m.place));
            m.place++;
        } else {
            tellBytes(m);
            m.pack.add(128 + most - 3);
            m.pack.add(nearest - 1);
            m.place += most;
        }
        if (m.place < to) {
            return false;
        }
        tellBytes(m);
        m.pack.add(0);
        return true;
    }

    private void tellBytes(Member m) {
        if (!m.open.isEmpty()) {
            m.pack.add(m.open.size());
            m.pack.addAll(m.open);
            m.open.clear();
        }
    }
}
