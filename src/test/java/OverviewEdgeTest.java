import java.util.HashSet;
import java.util.Set;

/** The document's first sentence, over courses in which the turns come at random. */
public final class OverviewEdgeTest {
    private static final int COURSES = 250;
    private static final int NONE = PackThreads.NONE;
    private static final int FREE = Look.FREE, WAITING = Look.WAITING, WORK = Look.WORK,
        HOLDING = Look.HOLDING, ENDED = Look.ENDED;

    private static final Course[] COURSE = new Course[COURSES];
    private static final Look[][] LOOKS = new Look[COURSES][Course.MOST_TURNS + 1];

    public static void main(String[] args) {
        for (int c = 0; c < COURSES; c++) {
            COURSE[c] = new Course(c);
            for (int played = 0; played <= Course.MOST_TURNS; played++) {
                LOOKS[c][played] = new Look(COURSE[c].behind(played), COURSE[c].threads);
            }
        }
        stepWhenTheirTurnComes();
        fixedCuts();
        reachBack();
        memoryIsNeverLost();
        memoryIsGivenBackOnEveryWay();
        joinedInOrder();
        throughARowOfFew();
        doneAgainAlone();
        aSecondTimeEndsTheStream();
        interruptsBetweenBlocks();
        thoseOfOneThread();
        coursesComeToAll();
        Due.finish();
    }

    private static String at(int c, int played) {
        return "course " + c + " behind " + played + " turns";
    }

    private static void stepWhenTheirTurnComes() {
        Due.sentence(6, "A text packed block by block by threads that step when their turn comes");
        for (int c = 0; c < COURSES; c++) {
            for (int played = 0; played < Course.MOST_TURNS; played++) {
                for (int t = 0; t < COURSE[c].threads; t++) {
                    if (t != COURSE[c].next(played)) {
                        Due.holds(at(c, played) + ": thread " + t + " has no turn",
                                stays(LOOKS[c][played], LOOKS[c][played + 1], t));
                    }
                }
            }
        }
    }

    // One that waits comes to work by another's turn, as memory is given back by that.
    private static boolean stays(Look before, Look behind, int t) {
        boolean getsMemory = before.state[t] == WAITING && behind.state[t] == WORK
                && behind.block[t] == before.block[t] && behind.step[t] == 0;
        return behind.isSame(before, t) || getsMemory;
    }

    private static void fixedCuts() {
        Due.sentence(5, "fixed cuts");
        for (int c = 0; c < COURSES; c++) {
            Course course = COURSE[c];
            PackThreads x = course.begun();
            int blocks = (course.bytes + course.size - 1) / course.size;
            Due.is("course " + c + ": blocks", x.told(0), blocks);
            Unpack packs = new Unpack(x);
            Due.is("course " + c + ": packs", packs.cuts.size(), blocks);
            for (int block = 0; block < packs.cuts.size(); block++) {
                Due.is("course " + c + ": bytes of block " + block, packs.cuts.get(block),
                        course.bytesOf(block));
            }
            Due.holds("course " + c + ": the blocks have the text", course.text.equals(packs.text()));
        }
    }

    private static void reachBack() {
        Due.sentence(13, "copies that reach back into former blocks");
        PackThreads x = Make.packing(4, 20, "abcdefghijklabcdklabcdef");
        Due.plain("from one block, then over cuts", x, 4, 97, 98, 99, 100, 0,
                4, 101, 102, 103, 104, 0, 4, 105, 106, 107, 108, 0, 129, 11, 0, 129, 5, 0, 129, 17, 0);
    }

    private static void memoryIsNeverLost() {
        Due.sentence(11, "memory that is asked for and given back on every way");
        for (int c = 0; c < COURSES; c++) {
            for (int played = 0; played <= Course.MOST_TURNS; played++) {
                Look look = LOOKS[c][played];
                int atWork = 0;
                for (int t = 0; t < COURSE[c].threads; t++) {
                    atWork += look.state[t] == WORK ? COURSE[c].bytesOf(look.block[t]) : 0;
                }
                Due.is(at(c, played) + ": cells left and at work", look.cellsLeft + atWork,
                        COURSE[c].cells);
            }
        }
    }

    private static void memoryIsGivenBackOnEveryWay() {
        Due.sentence(14, "given back on every way");
        for (int c = 0; c < COURSES; c++) {
            for (int played = 0; played <= Course.MOST_TURNS; played += 4) {
                PackThreads closed = COURSE[c].behind(played);
                closed.close();
                Due.is(at(c, played) + ", closed: cells left", closed.told(3), COURSE[c].cells);
                Due.is(at(c, played) + ", closed: waiting", closed.told(4), 0);
                Due.is(at(c, played) + ", closed: ended",
                        new Look(closed, COURSE[c].threads).howMany(ENDED), COURSE[c].threads);
                PackThreads goesOn = COURSE[c].behind(played);
                goesOn.run(400);
                Due.is(at(c, played) + ", gone on: cells left", goesOn.told(3), COURSE[c].cells);
            }
        }
    }

    private static void joinedInOrder() {
        Due.sentence(11, "packs joined in order");
        for (int c = 0; c < COURSES; c++) {
            Unpack packs = new Unpack(COURSE[c].begun());
            for (int played = 0; played <= Course.MOST_TURNS; played++) {
                Look look = LOOKS[c][played];
                Due.is(at(c, played) + ": bytes of the first " + look.joined, look.joinedBytes,
                        look.joined == 0 ? 0 : packs.ends.get(look.joined - 1));
                Due.holds(at(c, played) + ": what is joined stays joined",
                        played == 0 || look.joined >= LOOKS[c][played - 1].joined);
                for (int block : look.block) {
                    Due.holds(at(c, played) + ": no block before those joined is still made",
                            block == NONE || block >= look.joined);
                }
            }
        }
    }

    private static void throughARowOfFew() {
        Due.sentence(11, "through a row of few");
        for (int c = 0; c < COURSES; c++) {
            int gone = 0;
            for (int played = 0; played <= Course.MOST_TURNS; played++) {
                Look look = LOOKS[c][played];
                Due.holds(at(c, played) + ": at most R in the row",
                        look.inRow >= 0 && look.inRow <= COURSE[c].rowLimit);
                gone += played > 0 && endsWithItsPack(c, played - 1) ? 1 : 0;
                Due.is(at(c, played) + ": packs joined, in the row, held and gone",
                        look.joined + look.inRow + look.howMany(HOLDING) + gone, look.packsMade());
            }
        }
    }

    private static boolean endsWithItsPack(int c, int played) {
        int t = COURSE[c].next(played);
        return LOOKS[c][played].state[t] == HOLDING && LOOKS[c][played + 1].state[t] == ENDED;
    }

    private static void doneAgainAlone() {
        Due.sentence(6, "blocks that fail by the machine are done again alone");
        for (int c = 0; c < COURSES; c++) {
            Set<Integer> failed = new HashSet<>();
            for (int played = 0; played < Course.MOST_TURNS; played++) {
                Look before = LOOKS[c][played];
                Look look = LOOKS[c][played + 1];
                if (look.failures > before.failures) {
                    failed.add(before.block[COURSE[c].next(played)]);
                }
                for (int t = 0; t < COURSE[c].threads; t++) {
                    if (look.state[t] == WORK && failed.contains(look.block[t])) {
                        Due.is(at(c, played + 1) + ": at work beside " + t, look.howMany(WORK), 1);
                        Due.is(at(c, played + 1) + ": waiting beside " + t, look.howMany(WAITING), 0);
                    }
                }
            }
        }
    }

    private static void aSecondTimeEndsTheStream() {
        Due.sentence(11, "a second time they end the stream");
        for (int c = 0; c < COURSES; c++) {
            Set<Integer> failed = new HashSet<>();
            int due = NONE;
            for (int played = 0; played < Course.MOST_TURNS; played++) {
                Look before = LOOKS[c][played];
                Look look = LOOKS[c][played + 1];
                int block = before.block[COURSE[c].next(played)];
                if (look.failures > before.failures && !failed.add(block)) {
                    due = block;
                    Due.is(at(c, played + 1) + ": none is at work", look.howMany(WORK), 0);
                    Due.is(at(c, played + 1) + ": none is waiting", look.howMany(WAITING), 0);
                }
                Due.is(at(c, played + 1) + ": stopped at", look.stoppedAt, due);
                Due.holds(at(c, played + 1) + ": nothing is made or joined behind that",
                        before.stoppedAt == NONE || (look.joined == before.joined
                        && look.packsMade() == before.packsMade() && look.inRow == before.inRow));
            }
            PackThreads goesOn = COURSE[c].behind(Course.MOST_TURNS);
            goesOn.run(100);
            Due.holds("course " + c + ": all have ended behind that", due == NONE
                    || new Look(goesOn, COURSE[c].threads).howMany(ENDED) == COURSE[c].threads);
        }
    }

    private static void interruptsBetweenBlocks() {
        Due.sentence(8, "interrupts between blocks");
        for (int c = 0; c < COURSES; c++) {
            int interrupted = NONE;
            for (int played = 0; played < Course.MOST_TURNS; played++) {
                interrupted = Math.max(interrupted, COURSE[c].interruptedBefore(played));
                int t = COURSE[c].next(played);
                int was = LOOKS[c][played].state[t];
                int is = LOOKS[c][played + 1].state[t];
                boolean stopped = LOOKS[c][played].stoppedAt != NONE;
                Due.holds(at(c, played) + ": thread " + t + " ends between blocks only",
                        is != ENDED || was == ENDED || was == FREE || (was == HOLDING && stopped));
                Due.holds(at(c, played) + ": thread " + t + " takes no block, if interrupted",
                        t != interrupted || was != FREE || is == ENDED);
            }
        }
    }

    private static void thoseOfOneThread() {
        Due.sentence(10, "the bytes are those of one thread, whatever the turns.");
        for (int c = 0; c < COURSES; c++) {
            PackThreads alone = new PackThreads();
            alone.set(0, COURSE[c].size);
            Due.types(alone, COURSE[c].text);
            alone.begin(1);
            alone.run(400);
            PackThreads x = COURSE[c].behind(Course.MOST_TURNS);
            int joined = x.told(2);
            for (int i = 0; i < joined; i++) {
                Due.is("course " + c + ": out(" + i + ")", x.out(i), alone.out(i));
            }
            Due.is("course " + c + ": out behind its end", x.out(joined), NONE);
        }
    }

    // The courses must come to what they are to test.
    private static void coursesComeToAll() {
        int[] seen = new int[7];
        for (int c = 0; c < COURSES; c++) {
            Look end = LOOKS[c][Course.MOST_TURNS];
            seen[0] += end.stoppedAt != NONE ? 1 : 0;
            seen[1] += end.failures > 0 && end.stoppedAt == NONE ? 1 : 0;
            seen[2] += end.joined > 3 ? 1 : 0;
            for (Look look : LOOKS[c]) {
                seen[3] += look.howMany(WAITING) > 0 ? 1 : 0;
                seen[4] += look.howMany(HOLDING) > 0 ? 1 : 0;
                seen[5] += look.toBeDoneAgain > 1 ? 1 : 0;
                seen[6] += look.howMany(HOLDING) > 0 && look.stoppedAt != NONE ? 1 : 0;
            }
        }
        for (int k = 0; k < seen.length; k++) {
            Due.holds("courses come to number " + k + ", " + seen[k], seen[k] > 10);
        }
    }
}
