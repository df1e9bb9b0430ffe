/** A text packed block by block by threads that step when their turn comes. */
public final class PackThreads {
    public static final int NONE = -1, BAD = -2, NO = -3, FULL = -4;

    private static final int MOST_BYTES = 160;
    private static final int MOST_BLOCKS = 40;
    private static final int MOST_STEPS = 32;
    private static final int MOST_KINDS = 6;
    private static final int MOST_THREADS = 6;
    private static final int MOST_TURNS = 400;
    // A block's pack is longest when all of it is bytes: one how-many and one 0 beside them.
    private static final int MOST_PACKED = MOST_BYTES + 2 * MOST_BLOCKS;
    private static final int LEAST_COPY = 3;
    private static final int COPY_MARK = 128;

    private static final int FREE = 0, WAITING = 1, WORK = 2, HOLDING = 3, ENDED = 4;

    private final Text text;
    private final Settings settings;
    private final Plants plants;
    private final Packs packs;
    private final Stream stream;
    private boolean begun;

    public PackThreads() {
        text = new Text();
        settings = new Settings();
        plants = new Plants();
        packs = new Packs(text, settings);
        stream = new Stream(packs, plants);
        begun = false;
    }

    public int type(int v) {
        if (v < 0 || v > 255) {
            return BAD;
        }
        if (begun) {
            return NO;
        }
        if (text.isFull()) {
            return FULL;
        }
        text.add(v);
        packs.forget();
        return text.length();
    }

    public int set(int what, int v) {
        if (!settings.allows(what, v)) {
            return BAD;
        }
        if (begun) {
            return NO;
        }
        packs.forget();
        return settings.replace(what, v);
    }

    public int plant(int block, int step, int kind, boolean twice) {
        if (block < 0 || block >= MOST_BLOCKS || step < 0 || step >= MOST_STEPS
                || kind < 1 || kind > MOST_KINDS) {
            return BAD;
        }
        if (begun) {
            return NO;
        }
        plants.put(block, step, kind, twice);
        return 1;
    }

    public int begin(int n) {
        if (n < 1 || n > MOST_THREADS) {
            return BAD;
        }
        if (begun) {
            return NO;
        }
        packs.make();
        stream.start(n, settings.cells(), settings.rowLimit());
        begun = true;
        return packs.blocks();
    }

    public int turn(int thread) {
        if (!isThread(thread)) {
            return BAD;
        }
        if (!begun) {
            return NO;
        }
        return stream.giveTurn(thread) ? 1 : 0;
    }

    public int run(int n) {
        if (n < 0 || n > MOST_TURNS) {
            return BAD;
        }
        if (!begun) {
            return NO;
        }
        return stream.giveTurnsInRing(n);
    }

    public int interrupt(int thread) {
        if (!isThread(thread)) {
            return BAD;
        }
        if (!begun) {
            return NO;
        }
        return stream.markInterrupted(thread) ? 1 : 0;
    }

    public int thread(int thread, int what) {
        if (!isThread(thread) || what < 0 || what > 4) {
            return BAD;
        }
        if (!begun) {
            return NO;
        }
        return stream.tellOfThread(thread, what);
    }

    public int out(int i) {
        if (!begun || i < 0 || i >= stream.joinedBytes()) {
            return NONE;
        }
        return packs.byteAt(i);
    }

    public int told(int what) {
        if (what < 0 || what > 10) {
            return BAD;
        }
        if (!begun) {
            return NO;
        }
        return what < 6 ? stream.tellOfStores(what) : stream.tellOfCourse(what);
    }

    public int waiting(int k) {
        if (!begun) {
            return NO;
        }
        return stream.numberInLine(k);
    }

    public int plain(int i) {
        packs.make();
        return packs.byteAt(i);
    }

    public int close() {
        if (!begun) {
            return NO;
        }
        return stream.endAll();
    }

    public int clear() {
        int had = text.length();
        text.empty();
        plants.removeAll();
        packs.forget();
        begun = false;
        return had;
    }

    // Before the start no number of threads is told, so any that could come to be is as told.
    private boolean isThread(int number) {
        int threads = begun ? stream.threads() : MOST_THREADS;
        return number >= 0 && number < threads;
    }

    private static final class Text {
        private final int[] bytes = new int[MOST_BYTES];
        private int length;

        int length() {
            return length;
        }

        boolean isFull() {
            return length >= bytes.length;
        }

        void add(int v) {
            if (length >= 0 && length < bytes.length) {
                bytes[length] = v;
                length++;
            }
        }

        int at(int i) {
            return i >= 0 && i < length && i < bytes.length ? bytes[i] : NONE;
        }

        void empty() {
            length = 0;
        }
    }

    private static final class Settings {
        private static final int[] LEAST = {4, 0, 32, 1};
        private static final int[] MOST = {32, 64, 200, 8};

        private int size = 8;
        private int window = 16;
        private int cells = 64;
        private int rowLimit = 2;

        boolean allows(int what, int v) {
            return what >= 0 && what < LEAST.length && what < MOST.length
                    && v >= LEAST[what] && v <= MOST[what];
        }

        int replace(int what, int v) {
            int was;
            switch (what) {
                case 0:
                    was = size;
                    size = v;
                    return was;
                case 1:
                    was = window;
                    window = v;
                    return was;
                case 2:
                    was = cells;
                    cells = v;
                    return was;
                default:
                    was = rowLimit;
                    rowLimit = v;
                    return was;
            }
        }

        int size() {
            return size;
        }

        int window() {
            return window;
        }

        int cells() {
            return cells;
        }

        int rowLimit() {
            return rowLimit;
        }
    }

    private static final class Plants {
        private final int[] steps = new int[MOST_BLOCKS];
        private final int[] kinds = new int[MOST_BLOCKS];
        private final boolean[] forTwice = new boolean[MOST_BLOCKS];

        void put(int block, int step, int kind, boolean twice) {
            if (block >= 0 && block < MOST_BLOCKS) {
                steps[block] = step;
                kinds[block] = kind;
                forTwice[block] = twice;
            }
        }

        /** The kind by which a block fails at a step, 0 if it does not. */
        int kindAt(int block, int step, boolean again) {
            if (block < 0 || block >= MOST_BLOCKS || steps[block] != step) {
                return 0;
            }
            return again && !forTwice[block] ? 0 : kinds[block];
        }

        void removeAll() {
            for (int block = 0; block < MOST_BLOCKS; block++) {
                kinds[block] = 0;
            }
        }
    }

    /**
     * The packs of all blocks, as one thread makes them alone. A pack hangs on the text and the
     * settings only, and neither changes once threads have begun; so the threads count their
     * steps against these packs, and what is joined is always a first part of these bytes.
     */
    private static final class Packs {
        private final Text text;
        private final Settings settings;
        private final int[] bytes = new int[MOST_PACKED];
        private final int[] ends = new int[MOST_BLOCKS];
        private final int[] tokens = new int[MOST_BLOCKS];
        private int count;
        private int blocks;
        private int runAt;
        private boolean made;

        Packs(Text text, Settings settings) {
            this.text = text;
            this.settings = settings;
        }

        void forget() {
            made = false;
        }

        void make() {
            if (made) {
                return;
            }
            count = 0;
            blocks = blocksOfText();
            for (int block = 0; block < blocks && block < MOST_BLOCKS; block++) {
                int from = block * settings.size();
                tokens[block] = packBytes(from, from + bytesOf(block));
                ends[block] = count;
            }
            made = true;
        }

        private int blocksOfText() {
            int size = settings.size();
            return size <= 0 ? 0 : (text.length() + size - 1) / size;
        }

        private int packBytes(int from, int to) {
            int steps = 0;
            int length;
            runAt = NONE;
            for (int place = from; place < to; place += Math.max(1, length)) {
                int distance = bestDistance(place, to);
                length = distance == 0 ? 1 : alike(place, to, distance);
                if (distance == 0) {
                    putByte(text.at(place));
                } else {
                    putCopy(length, distance);
                }
                steps++;
            }
            put(0);
            return steps;
        }

        /** The least distance of a longest copy, 0 if there is no copy. */
        private int bestDistance(int place, int to) {
            int best = 0;
            int most = LEAST_COPY - 1;
            int farthest = Math.min(settings.window(), place);
            for (int distance = 1; distance <= farthest && most < to - place; distance++) {
                int length = alike(place, to, distance);
                if (length > most) {
                    most = length;
                    best = distance;
                }
            }
            return best;
        }

        private int alike(int place, int to, int distance) {
            int end = place;
            while (end < to && text.at(end) == text.at(end - distance)) {
                end++;
            }
            return end - place;
        }

        private void putByte(int v) {
            if (runAt == NONE) {
                runAt = count;
                put(0);
            }
            if (runAt >= 0 && runAt < bytes.length) {
                bytes[runAt]++;
            }
            put(v);
        }

        private void putCopy(int length, int distance) {
            put(COPY_MARK + length - LEAST_COPY);
            put(distance - 1);
            runAt = NONE;
        }

        private void put(int v) {
            if (count >= 0 && count < bytes.length) {
                bytes[count] = v;
                count++;
            }
        }

        int blocks() {
            return blocks;
        }

        int bytesOf(int block) {
            int size = settings.size();
            return Math.max(0, Math.min(size, text.length() - block * size));
        }

        int tokensOf(int block) {
            return block >= 0 && block < tokens.length ? tokens[block] : 0;
        }

        int byteAt(int i) {
            return i >= 0 && i < count && i < bytes.length ? bytes[i] : NONE;
        }

        /** How many bytes the first blocks have together. */
        int lengthOfFirst(int howMany) {
            return howMany >= 1 && howMany <= ends.length ? ends[howMany - 1] : 0;
        }
    }

    private static final class Worker {
        private final int number;
        private int state;
        private int block;
        private int step;
        private int cells;
        private int made;
        private int timesEnded;
        private boolean interrupted;

        Worker(int number) {
            this.number = number;
        }

        void renew() {
            becomeFree();
            made = 0;
            timesEnded = 0;
            interrupted = false;
        }

        void becomeFree() {
            state = FREE;
            block = NONE;
            step = NONE;
            cells = 0;
        }

        void choose(int wanted, int needed) {
            block = wanted;
            cells = needed;
        }

        void waitInLine() {
            state = WAITING;
        }

        void startWork() {
            state = WORK;
            step = 0;
        }

        void holdPack() {
            state = HOLDING;
            step = NONE;
            made++;
        }

        void end() {
            becomeFree();
            state = ENDED;
            timesEnded++;
        }
    }

    private static final class Memory {
        private final Worker[] line = new Worker[MOST_THREADS];
        private int inLine;
        private int left;

        void fill(int cells) {
            left = cells;
            inLine = 0;
        }

        void ask(Worker worker) {
            if (inLine == 0 && worker.cells <= left) {
                left -= worker.cells;
                worker.startWork();
            } else if (inLine >= 0 && inLine < line.length) {
                line[inLine] = worker;
                inLine++;
                worker.waitInLine();
            }
        }

        void giveBack(int cells) {
            left += cells;
            for (int tries = inLine; tries > 0; tries--) {
                Worker first = line[0];
                if (first == null || first.cells > left) {
                    return;
                }
                dropFirst();
                left -= first.cells;
                first.startWork();
            }
        }

        private void dropFirst() {
            for (int k = 1; k < inLine && k < line.length; k++) {
                line[k - 1] = line[k];
            }
            inLine--;
        }

        int numberAt(int k) {
            if (k < 0 || k >= inLine || k >= line.length) {
                return NONE;
            }
            Worker worker = line[k];
            return worker == null ? NONE : worker.number;
        }
    }

    /** The packs that are made and wait until all blocks before them are joined. */
    private static final class Row {
        private final boolean[] kept = new boolean[MOST_BLOCKS];
        private int packs;
        private int limit;
        private int joined;

        void renew(int most) {
            for (int block = 0; block < kept.length; block++) {
                kept[block] = false;
            }
            packs = 0;
            limit = most;
            joined = 0;
        }

        /** False if there is no place for this block's pack. */
        boolean lay(int block) {
            if (block < 0 || block >= kept.length || (block != joined && packs >= limit)) {
                return false;
            }
            kept[block] = true;
            packs++;
            for (; joined >= 0 && joined < kept.length && kept[joined]; joined++) {
                kept[joined] = false;
                packs--;
            }
            return true;
        }
    }

    /** The blocks that failed once, and those of them that are still to be done again. */
    private static final class Failed {
        private final boolean[] before = new boolean[MOST_BLOCKS];
        private final int[] line = new int[MOST_BLOCKS];
        private int inLine;

        void renew() {
            for (int block = 0; block < before.length; block++) {
                before[block] = false;
            }
            inLine = 0;
        }

        boolean has(int block) {
            return block >= 0 && block < before.length && before[block];
        }

        void add(int block) {
            if (block >= 0 && block < before.length && inLine >= 0 && inLine < line.length) {
                before[block] = true;
                line[inLine] = block;
                inLine++;
            }
        }

        int takeFirst() {
            if (inLine <= 0) {
                return NONE;
            }
            int first = line[0];
            for (int k = 1; k < inLine && k < line.length; k++) {
                line[k - 1] = line[k];
            }
            inLine--;
            return first;
        }
    }

    private static final class Stream {
        private final Packs packs;
        private final Plants plants;
        private final Worker[] workers = new Worker[MOST_THREADS];
        private final Memory memory = new Memory();
        private final Row row = new Row();
        private final Failed failed = new Failed();
        private int threads;
        private int latest;
        private int nextBlock;
        private int stoppedAt;
        private int stoppedKind;
        private int failures;
        private int turnsDone;

        Stream(Packs packs, Plants plants) {
            this.packs = packs;
            this.plants = plants;
            for (int number = 0; number < workers.length; number++) {
                workers[number] = new Worker(number);
            }
        }

        void start(int howMany, int cells, int rowLimit) {
            threads = howMany;
            for (int number = 0; number < workers.length; number++) {
                workers[number].renew();
            }
            memory.fill(cells);
            row.renew(rowLimit);
            failed.renew();
            latest = NONE;
            nextBlock = 0;
            stoppedAt = NONE;
            stoppedKind = 0;
            failures = 0;
            turnsDone = 0;
        }

        int threads() {
            return threads;
        }

        private Worker worker(int number) {
            return number >= 0 && number < threads && number < workers.length
                    ? workers[number] : null;
        }

        int giveTurnsInRing(int most) {
            int did = 0;
            for (int given = 0; given < most && !allEnded(); given++) {
                int next = latest + 1 < threads ? latest + 1 : 0;
                if (giveTurn(next)) {
                    did++;
                }
            }
            return did;
        }

        boolean giveTurn(int number) {
            Worker worker = worker(number);
            if (worker == null) {
                return false;
            }
            latest = number;
            boolean did = false;
            switch (worker.state) {
                case FREE:
                    did = doFree(worker);
                    break;
                case WORK:
                    did = doWork(worker);
                    break;
                case HOLDING:
                    did = doHolding(worker);
                    break;
                default:
                    break;
            }
            if (did) {
                turnsDone++;
            }
            return did;
        }

        private boolean doFree(Worker worker) {
            if (worker.interrupted || hasStopped() || row.joined >= packs.blocks()) {
                worker.end();
                return true;
            }
            if (isBlockDoneAgain()) {
                return false;
            }
            if (failed.inLine > 0) {
                if (isAnyAtWork()) {
                    return false;
                }
                take(worker, failed.takeFirst());
                return true;
            }
            if (nextBlock >= packs.blocks()) {
                return false;
            }
            take(worker, nextBlock);
            nextBlock++;
            return true;
        }

        private void take(Worker worker, int block) {
            worker.choose(block, packs.bytesOf(block));
            memory.ask(worker);
        }

        private boolean doWork(Worker worker) {
            int block = worker.block;
            int kind = plants.kindAt(block, worker.step, failed.has(block));
            if (kind != 0) {
                fail(worker, kind);
                return true;
            }
            worker.step++;
            if (worker.step >= packs.tokensOf(block)) {
                memory.giveBack(worker.cells);
                worker.holdPack();
                layPack(worker);
            }
            return true;
        }

        private void fail(Worker worker, int kind) {
            int block = worker.block;
            memory.giveBack(worker.cells);
            worker.becomeFree();
            failures++;
            if (failed.has(block)) {
                stoppedAt = block;
                stoppedKind = kind;
            } else {
                failed.add(block);
            }
        }

        private boolean doHolding(Worker worker) {
            if (hasStopped()) {
                worker.end();
                return true;
            }
            return layPack(worker);
        }

        private boolean layPack(Worker worker) {
            if (!row.lay(worker.block)) {
                return false;
            }
            worker.becomeFree();
            return true;
        }

        private boolean hasStopped() {
            return stoppedAt != NONE;
        }

        // A second failure ends the stream, so whoever works on a block that failed does it again.
        private boolean isBlockDoneAgain() {
            for (int number = 0; number < workers.length; number++) {
                Worker worker = workers[number];
                if (worker.state == WORK && failed.has(worker.block)) {
                    return true;
                }
            }
            return false;
        }

        private boolean isAnyAtWork() {
            for (int number = 0; number < workers.length; number++) {
                if (workers[number].state == WORK) {
                    return true;
                }
            }
            return false;
        }

        private boolean allEnded() {
            for (int number = 0; number < threads && number < workers.length; number++) {
                if (workers[number].state != ENDED) {
                    return false;
                }
            }
            return true;
        }

        boolean markInterrupted(int number) {
            Worker worker = worker(number);
            if (worker == null || worker.interrupted || worker.state == ENDED) {
                return false;
            }
            worker.interrupted = true;
            return true;
        }

        int endAll() {
            int count = 0;
            // The line goes first, so that what is given back starts nobody's work.
            memory.inLine = 0;
            for (int number = 0; number < threads && number < workers.length; number++) {
                Worker worker = workers[number];
                if (worker.state == WORK) {
                    memory.giveBack(worker.cells);
                }
                if (worker.state != ENDED) {
                    worker.end();
                    count++;
                }
            }
            return count;
        }

        int joinedBytes() {
            return packs.lengthOfFirst(row.joined);
        }

        int numberInLine(int k) {
            return memory.numberAt(k);
        }

        int tellOfThread(int number, int what) {
            Worker worker = worker(number);
            if (worker == null) {
                return BAD;
            }
            switch (what) {
                case 0:
                    return worker.state;
                case 1:
                    return worker.block;
                case 2:
                    return worker.step;
                case 3:
                    return worker.made;
                default:
                    return worker.timesEnded;
            }
        }

        int tellOfStores(int what) {
            switch (what) {
                case 0:
                    return packs.blocks();
                case 1:
                    return row.joined;
                case 2:
                    return joinedBytes();
                case 3:
                    return memory.left;
                case 4:
                    return memory.inLine;
                default:
                    return row.packs;
            }
        }

        int tellOfCourse(int what) {
            switch (what) {
                case 6:
                    return stoppedAt;
                case 7:
                    return stoppedKind;
                case 8:
                    return failures;
                case 9:
                    return turnsDone;
                default:
                    return failed.inLine;
            }
        }
    }
}
