import java.util.List;
import java.util.function.ToIntFunction;

/**
 * The edges that the document names for changes and facts (its part 1, promises 1 to 8, 19 and 20):
 * each test has the sentence whose edge it looks at.
 */
public final class EdgesOfChangesTest {
    private static final int NONE = -1, BAD = -2, STATE = -3, FULL = -4;

    public static void main(String[] args) {
        aNewObjectHasNothing();
        lengthIs1To100();
        weightIs0To50();
        wishIsARoom();
        roomsAre0To5();
        sizeIs0To400And100AtFirst();
        jobsAre0To15();
        sixteenCome();
        sixteenCameThoughAllAreGone();
        jobsAreNumberedAsTheyCome();
        goneOnesDoNotComeBack();
        goneIsBadBelow();
        aparts();
        apartOfOne();
        apartIsSo();
        apartGoesWithItsJob();
        lockedToARoomOrNone();
        lockedAnew();
        freeOfWhatIsNotLocked();
        theLogHolds120();
        fullIsLast();
        stateIsAheadOfFull();
        badIsAheadOfState();
        refusedCallsHaveNoNumber();
        factCounts();
        factWhetherThere();
        factTraits();
        factLocks();
        factSizes();
        factGaps();
        changesAre1ToAll();
        kinds();
        Check.end("EdgesOfChangesTest");
    }

    private static LiveChanges withJobs(int n) {
        LiveChanges c = new LiveChanges();
        for (int j = 0; j < n; j++) {
            Check.due("come", c.come(10 + j, j, j % 6), j + 1);
        }
        return c;
    }

    /** Brings the log to n changes, by sizes alone. */
    private static void fillTo(LiveChanges c, int n) {
        for (int i = c.fact(2) + 1; i <= n; i++) {
            Check.due("size", c.size(5, i), i);
        }
    }

    /** "No CHANGES, no SOLVES." */
    private static void aNewObjectHasNothing() {
        LiveChanges c = new LiveChanges();
        Check.due("new: jobs there", c.fact(0), 0);
        Check.due("new: jobs that came", c.fact(1), 0);
        Check.due("new: changes", c.fact(2), 0);
        Check.due("new: solves", c.fact(3), 0);
        Check.due("new: change(0)", c.change(0), BAD);
        Check.due("new: change(1)", c.change(1), BAD);
        Check.due("new: job 0 never came", c.fact(100), BAD);
        Check.due("new: go(0)", c.go(0), BAD);
        Check.due("new: turn(0)", c.turn(0, 1, 1, 1), BAD);
        Check.due("new: apart(0, 1)", c.apart(0, 1, true), BAD);
        Check.due("new: apart(0, 1)", c.apart(0, 1, false), BAD);
        Check.due("new: lock(0)", c.lock(0, 0), BAD);
        Check.due("new: free(0)", c.free(0), BAD);
        Check.due("new: take(0, 0)", c.take(0, 0), BAD);
        Check.due("new: step(0, 0)", c.step(0, 0), BAD);
        Check.due("new: mark(0, 0)", c.mark(0, 0), BAD);
        Check.due("new: back(0, 0)", c.back(0, 0), BAD);
        Check.due("new: room(0, 0)", c.room(0, false, 0), BAD);
        Check.due("new: score(0)", c.score(0, false, true), BAD);
        Check.due("new: scoreBy(0, 0)", c.scoreBy(0, false, true, 0), BAD);
        Check.due("new: same(0, 0)", c.same(0, 0), BAD);
        Check.due("new: told(0, 0)", c.told(0, 0), Integer.MIN_VALUE);
        Check.due("new: the first change is 1", c.come(1, 1, 1), 1);
        Check.due("new: the first solve is 0", c.solve(1, 1), 0);
    }

    /** "each has a LENGTH (1 .. 100)" */
    private static void lengthIs1To100() {
        LiveChanges c = new LiveChanges();
        Check.due("come, length 0", c.come(0, 1, 1), BAD);
        Check.due("come, length -1", c.come(-1, 1, 1), BAD);
        Check.due("come, length 101", c.come(101, 1, 1), BAD);
        Check.due("come, length 1", c.come(1, 1, 1), 1);
        Check.due("come, length 100", c.come(100, 1, 1), 2);
        Check.due("length of 0", c.fact(200), 1);
        Check.due("length of 1", c.fact(201), 100);
        Check.due("turn, length 0", c.turn(0, 0, 1, 1), BAD);
        Check.due("turn, length -1", c.turn(0, -1, 1, 1), BAD);
        Check.due("turn, length 101", c.turn(0, 101, 1, 1), BAD);
        Check.due("turn, length 100", c.turn(0, 100, 1, 1), 3);
        Check.due("turn, length 1", c.turn(1, 1, 1, 1), 4);
        Check.due("length of 0", c.fact(200), 100);
        Check.due("length of 1", c.fact(201), 1);
        for (int far : Scene.FAR) {
            Check.due("come, length far", c.come(far, 1, 1), BAD);
            Check.due("turn, length far", c.turn(0, far, 1, 1), BAD);
        }
    }

    /** "a WEIGHT (0 .. 50)" */
    private static void weightIs0To50() {
        LiveChanges c = new LiveChanges();
        Check.due("come, weight -1", c.come(1, -1, 1), BAD);
        Check.due("come, weight 51", c.come(1, 51, 1), BAD);
        Check.due("come, weight 0", c.come(1, 0, 1), 1);
        Check.due("come, weight 50", c.come(1, 50, 1), 2);
        Check.due("weight of 0", c.fact(300), 0);
        Check.due("weight of 1", c.fact(301), 50);
        Check.due("turn, weight -1", c.turn(0, 1, -1, 1), BAD);
        Check.due("turn, weight 51", c.turn(0, 1, 51, 1), BAD);
        Check.due("turn, weight 50", c.turn(0, 1, 50, 1), 3);
        Check.due("turn, weight 0", c.turn(1, 1, 0, 1), 4);
        Check.due("weight of 0", c.fact(300), 50);
        Check.due("weight of 1", c.fact(301), 0);
        for (int far : Scene.FAR) {
            Check.due("come, weight far", c.come(1, far, 1), BAD);
            Check.due("turn, weight far", c.turn(0, 1, far, 1), BAD);
        }
    }

    /** "a WISH (a ROOM)": NONE is no wish. */
    private static void wishIsARoom() {
        LiveChanges c = new LiveChanges();
        Check.due("come, wish NONE", c.come(1, 1, NONE), BAD);
        Check.due("come, wish 6", c.come(1, 1, 6), BAD);
        Check.due("come, wish 0", c.come(1, 1, 0), 1);
        Check.due("come, wish 5", c.come(1, 1, 5), 2);
        Check.due("wish of 0", c.fact(400), 0);
        Check.due("wish of 1", c.fact(401), 5);
        Check.due("turn, wish NONE", c.turn(0, 1, 1, NONE), BAD);
        Check.due("turn, wish 6", c.turn(0, 1, 1, 6), BAD);
        Check.due("turn, wish 5", c.turn(0, 1, 1, 5), 3);
        Check.due("turn, wish 0", c.turn(1, 1, 1, 0), 4);
        Check.due("wish of 0", c.fact(400), 5);
        Check.due("wish of 1", c.fact(401), 0);
        for (int far : Scene.FAR) {
            Check.due("come, wish far", c.come(1, 1, far), BAD);
            Check.due("turn, wish far", c.turn(0, 1, 1, far), BAD);
        }
    }

    /** "ROOMS 0 .. 5 have a SIZE" */
    private static void roomsAre0To5() {
        LiveChanges c = new LiveChanges();
        Check.due("size of room -1", c.size(-1, 7), BAD);
        Check.due("size of room 6", c.size(6, 7), BAD);
        for (int far : Scene.FAR) {
            Check.due("size of a room far", c.size(far, 7), BAD);
        }
        for (int r = 0; r <= 5; r++) {
            Check.due("size of room " + r, c.size(r, 10 + r), r + 1);
        }
        for (int r = 0; r <= 5; r++) {
            Check.due("each room has its own", c.fact(600 + r), 10 + r);
        }
    }

    /** "a SIZE (0 .. 400; 100 at first)" */
    private static void sizeIs0To400And100AtFirst() {
        LiveChanges c = new LiveChanges();
        for (int r = 0; r <= 5; r++) {
            Check.due("at first, room " + r, c.fact(600 + r), 100);
        }
        Check.due("size -1", c.size(0, -1), BAD);
        Check.due("size 401", c.size(0, 401), BAD);
        Check.due("size 0", c.size(0, 0), 1);
        Check.due("of room 0", c.fact(600), 0);
        Check.due("size 400", c.size(0, 400), 2);
        Check.due("of room 0", c.fact(600), 400);
        Check.due("the same again is a change, too", c.size(0, 400), 3);
        for (int far : Scene.FAR) {
            Check.due("size far", c.size(0, far), BAD);
        }
        Check.due("of room 0", c.fact(600), 400);
    }

    /** "JOBS 0 .. 15": what is no number of a job, and the last one. */
    private static void jobsAre0To15() {
        LiveChanges c = withJobs(16);
        int[] wrong = {-1, 16, 17, 31, 32, Integer.MIN_VALUE, Integer.MIN_VALUE + 15,
            Integer.MAX_VALUE};
        for (int job : wrong) {
            Check.due("go " + job, c.go(job), BAD);
            Check.due("turn " + job, c.turn(job, 1, 1, 1), BAD);
            Check.due("apart " + job, c.apart(job, 0, true), BAD);
            Check.due("apart of " + job, c.apart(0, job, true), BAD);
            Check.due("apart of " + job, c.apart(0, job, false), BAD);
            Check.due("apart of both " + job, c.apart(job, job, true), BAD);
            Check.due("lock " + job, c.lock(job, 1), BAD);
            Check.due("free " + job, c.free(job), BAD);
        }
        Check.due("turn 15", c.turn(15, 1, 1, 1), 17);
        Check.due("apart 15", c.apart(15, 0, true), 18);
        Check.due("apart of 15", c.apart(14, 15, true), 19);
        Check.due("lock 15", c.lock(15, 5), 20);
        Check.due("free 15", c.free(15), 21);
        Check.due("go 15", c.go(15), 22);
        Check.due("go 0", c.go(0), 23);
    }

    /** "STATE: 16 came." */
    private static void sixteenCome() {
        LiveChanges c = withJobs(15);
        Check.due("the 16th", c.come(1, 1, 1), 16);
        Check.due("came", c.fact(1), 16);
        Check.due("a 17th", c.come(1, 1, 1), STATE);
        Check.due("a 17th again", c.come(100, 50, 5), STATE);
        Check.due("came", c.fact(1), 16);
        Check.due("there", c.fact(0), 16);
        Check.due("length of 15", c.fact(215), 1);
        Check.due("changes", c.fact(2), 16);
    }

    /** "STATE: 16 came": those that are gone came, too. */
    private static void sixteenCameThoughAllAreGone() {
        LiveChanges c = withJobs(16);
        for (int j = 15; j >= 0; j--) {
            Check.due("go " + j, c.go(j), 32 - j);
        }
        Check.due("none is there", c.fact(0), 0);
        Check.due("came", c.fact(1), 16);
        Check.due("a 17th", c.come(1, 1, 1), STATE);
    }

    /** "numbered as they come": a gone one's number is not given again. */
    private static void jobsAreNumberedAsTheyCome() {
        LiveChanges c = withJobs(2);
        c.go(1);
        c.go(0);
        Check.due("come", c.come(77, 7, 3), 5);
        Check.due("0 is gone", c.fact(100), 0);
        Check.due("1 is gone", c.fact(101), 0);
        Check.due("2 is there", c.fact(102), 1);
        Check.due("length of 2", c.fact(202), 77);
        Check.due("3 never came", c.fact(103), BAD);
    }

    /** "gone ones do not come back" */
    private static void goneOnesDoNotComeBack() {
        LiveChanges c = withJobs(1);
        c.lock(0, 2);
        c.go(0);
        for (int j = 1; j < 16; j++) {
            c.come(1, 1, 1);
            Check.due("still gone", c.fact(100), 0);
        }
        Check.due("no length", c.fact(200), BAD);
        Check.due("there", c.fact(0), 15);
    }

    /** "BAD: also it is gone (so below)." */
    private static void goneIsBadBelow() {
        LiveChanges c = withJobs(3);
        c.apart(0, 1, true);
        c.lock(1, 2);
        Check.due("go", c.go(1), 6);
        Check.due("go, gone", c.go(1), BAD);
        Check.due("turn, gone", c.turn(1, 1, 1, 1), BAD);
        Check.due("apart, gone", c.apart(0, 1, true), BAD);
        Check.due("apart, gone", c.apart(1, 2, true), BAD);
        Check.due("apart, gone: no STATE", c.apart(0, 1, false), BAD);
        Check.due("lock, gone", c.lock(1, 1), BAD);
        Check.due("free, gone, was locked", c.free(1), BAD);
        c.go(0);
        Check.due("apart, both gone", c.apart(0, 1, true), BAD);
        Check.due("free, gone, was not locked: no STATE", c.free(0), BAD);
    }

    /** "Of two JOBS that are there it may be told that they are to be APART": any two of 16. */
    private static void aparts() {
        for (int a = 0; a < 16; a += 5) {
            LiveChanges c = withJobs(16);
            int n = 16;
            for (int b = 0; b < 16; b++) {
                if (a != b) {
                    n++;
                    Check.due("apart " + a + ", " + b, c.apart(a, b, true), n);
                }
            }
            for (int b = 0; b < 16; b++) {
                Check.due("so the other way", c.apart(b, a, true), a == b ? BAD : STATE);
                int other = (b + 1) % 16;
                if (b != a && other != a) {
                    Check.due("others are not", c.apart(b, other, false), STATE);
                }
            }
        }
    }

    /** "BAD: also both are one" */
    private static void apartOfOne() {
        LiveChanges c = withJobs(2);
        for (int j = 0; j < 2; j++) {
            Check.due("apart of one", c.apart(j, j, true), BAD);
            Check.due("apart of one: no STATE", c.apart(j, j, false), BAD);
        }
        Check.due("changes", c.fact(2), 2);
    }

    /** "STATE: it is so." */
    private static void apartIsSo() {
        LiveChanges c = withJobs(2);
        Check.due("need not at first", c.apart(0, 1, false), STATE);
        Check.due("need not at first", c.apart(1, 0, false), STATE);
        Check.due("apart", c.apart(0, 1, true), 3);
        Check.due("apart already", c.apart(0, 1, true), STATE);
        Check.due("apart already", c.apart(1, 0, true), STATE);
        Check.due("need not", c.apart(1, 0, false), 4);
        Check.due("need not already", c.apart(1, 0, false), STATE);
        Check.due("need not already", c.apart(0, 1, false), STATE);
        Check.due("apart again", c.apart(1, 0, true), 5);
    }

    /** "it goes (what was told APART of it, too)": others' pairs stay. */
    private static void apartGoesWithItsJob() {
        LiveChanges c = withJobs(4);
        c.apart(0, 1, true);
        c.apart(2, 1, true);
        c.apart(2, 3, true);
        for (int j = 0; j < 4; j++) {
            c.lock(j, 0);
        }
        c.size(0, 400);
        c.solve(1, 1);
        c.step(0, 0);
        Check.due("three pairs", c.score(0, false, true), 30);
        c.go(1);
        c.step(0, 0);
        Check.due("one pair", c.score(0, false, true), 10);
        Check.due("it is so yet", c.apart(3, 2, true), STATE);
        Check.due("by the changes ahead of it 1 is in none", c.scoreBy(0, false, true, 12), 10);
    }

    /** "A JOB is LOCKED to a ROOM, or to none (NONE). BAD." */
    private static void lockedToARoomOrNone() {
        LiveChanges c = withJobs(1);
        Check.due("lock to -2", c.lock(0, -2), BAD);
        Check.due("lock to 6", c.lock(0, 6), BAD);
        for (int far : Scene.FAR) {
            Check.due("lock to far", c.lock(0, far), BAD);
        }
        Check.due("not locked by that", c.fact(500), STATE);
        Check.due("lock to NONE", c.lock(0, NONE), 2);
        Check.due("fact", c.fact(500), 0);
        Check.due("lock to 0", c.lock(0, 0), 3);
        Check.due("fact", c.fact(500), 1);
        Check.due("lock to 5", c.lock(0, 5), 4);
        Check.due("fact", c.fact(500), 6);
    }

    /** "6 a JOB is LOCKED (also anew)" */
    private static void lockedAnew() {
        LiveChanges c = withJobs(1);
        for (int i = 2; i < 10; i++) {
            Check.due("the same lock is a change, too", c.lock(0, 3), i);
            Check.due("kind", c.change(i), 6);
        }
        Check.due("one free is enough", c.free(0), 10);
        Check.due("fact", c.fact(500), STATE);
        Check.due("locked after being free", c.lock(0, 3), 11);
    }

    /** "A JOB is FREE. BAD; STATE: it is not LOCKED." */
    private static void freeOfWhatIsNotLocked() {
        LiveChanges c = withJobs(2);
        Check.due("never locked", c.free(0), STATE);
        c.lock(1, 0);
        Check.due("another is locked", c.free(0), STATE);
        Check.due("free", c.free(1), 4);
        Check.due("free again", c.free(1), STATE);
        c.lock(0, NONE);
        Check.due("locked to none is locked", c.free(0), 6);
        Check.due("free again", c.free(0), STATE);
        c.lock(0, 0);
        c.turn(0, 1, 1, 1);
        Check.due("turned, locked yet", c.free(0), 9);
    }

    private record Call(String name, ToIntFunction<LiveChanges> call, int kind) {
    }

    /** Each call of the changes, fit for three jobs of which 2 is locked and 1, 2 are apart. */
    private static final List<Call> CALLS = List.of(
        new Call("come", c -> c.come(1, 1, 1), 0),
        new Call("go", c -> c.go(0), 1),
        new Call("turn", c -> c.turn(0, 1, 1, 1), 2),
        new Call("size", c -> c.size(0, 0), 3),
        new Call("apart", c -> c.apart(0, 1, true), 4),
        new Call("apart no more", c -> c.apart(1, 2, false), 5),
        new Call("lock", c -> c.lock(0, NONE), 6),
        new Call("free", c -> c.free(2), 7));

    private static LiveChanges forAllCalls(int changes) {
        LiveChanges c = withJobs(3);
        c.lock(2, 4);
        c.apart(1, 2, true);
        fillTo(c, changes);
        return c;
    }

    /** "(120 at most) stand in THE LOG": each kind may be the 120th, none the 121st. */
    private static void theLogHolds120() {
        for (Call call : CALLS) {
            LiveChanges c = forAllCalls(118);
            Check.due("119th", c.size(4, 4), 119);
            Check.due(call.name + " as the 120th", call.call.applyAsInt(c), 120);
            Check.due(call.name + ": its kind", c.change(120), call.kind);
            Check.due("a 121st", c.size(3, 3), FULL);
            Check.due("no 121st", c.change(121), BAD);
            Check.due("changes", c.fact(2), 120);
            Check.due("size", c.fact(603), 100);
        }
    }

    /** "FULL: 120 are there." */
    private static void fullIsLast() {
        for (Call call : CALLS) {
            LiveChanges c = forAllCalls(120);
            for (int i = 0; i < 3; i++) {
                Check.due(call.name + " in a full log", call.call.applyAsInt(c), FULL);
            }
            Check.due("changes", c.fact(2), 120);
            Check.due("came", c.fact(1), 3);
            Check.due("there", c.fact(0), 3);
            Check.due("length", c.fact(200), 10);
            Check.due("size", c.fact(600), 100);
            Check.due("lock", c.fact(500), STATE);
            Check.due("lock", c.fact(502), 5);
            Check.due("not apart", c.apart(0, 1, false), STATE);
            Check.due("apart", c.apart(1, 2, true), STATE);
        }
    }

    /** "the first that fits": in a full log STATE is ahead of FULL. */
    private static void stateIsAheadOfFull() {
        LiveChanges c = withJobs(16);
        c.apart(0, 1, true);
        fillTo(c, 120);
        Check.due("come", c.come(1, 1, 1), STATE);
        Check.due("apart", c.apart(0, 1, true), STATE);
        Check.due("apart no more", c.apart(0, 2, false), STATE);
        Check.due("free", c.free(0), STATE);
    }

    /** "the first that fits": BAD is ahead of STATE, and of FULL. */
    private static void badIsAheadOfState() {
        LiveChanges c = withJobs(16);
        Check.due("come of a 17th, badly", c.come(0, 1, 1), BAD);
        Check.due("come of a 17th, badly", c.come(1, 51, 1), BAD);
        Check.due("come of a 17th, badly", c.come(1, 1, 6), BAD);
        fillTo(c, 120);
        Check.due("come", c.come(101, 1, 1), BAD);
        Check.due("go", c.go(16), BAD);
        Check.due("turn", c.turn(16, 1, 1, 1), BAD);
        Check.due("turn", c.turn(0, 1, 1, -1), BAD);
        Check.due("size", c.size(6, 1), BAD);
        Check.due("size", c.size(0, 401), BAD);
        Check.due("apart", c.apart(3, 3, false), BAD);
        Check.due("apart", c.apart(3, 16, false), BAD);
        Check.due("lock", c.lock(-1, 0), BAD);
        Check.due("lock", c.lock(0, 6), BAD);
        Check.due("free", c.free(16), BAD);
    }

    /** "each answers its number", and "They change nothing": a refused call uses no number up. */
    private static void refusedCallsHaveNoNumber() {
        LiveChanges c = new LiveChanges();
        for (int i = 1; i <= 15; i++) {
            c.come(0, 0, 0);
            c.go(i);
            c.size(6, 0);
            c.free(0);
            Check.due("come", c.come(i, i, i % 6), i);
            Check.due("length", c.fact(200 + i - 1), i);
        }
    }

    /** "what = 0 how many JOBS are there, 1 how many came, 2 CHANGES, 3 SOLVES" */
    private static void factCounts() {
        LiveChanges c = withJobs(16);
        fillTo(c, 119);
        c.go(9);
        for (int s = 0; s < 3; s++) {
            Check.due("solves", c.fact(3), s);
            c.solve(s, 1);
        }
        c.solve(3, 1);
        Check.due("there", c.fact(0), 15);
        Check.due("came", c.fact(1), 16);
        Check.due("changes", c.fact(2), 120);
        Check.due("solves", c.fact(3), 3);
        Check.due("fact(-1)", c.fact(-1), BAD);
        Check.due("fact(4)", c.fact(4), BAD);
    }

    /** "100 + j whether it is there (1, 0; BAD: it never came)" */
    private static void factWhetherThere() {
        LiveChanges c = withJobs(15);
        c.go(0);
        c.go(14);
        Check.due("99", c.fact(99), BAD);
        Check.due("gone", c.fact(100), 0);
        Check.due("there", c.fact(101), 1);
        Check.due("gone", c.fact(114), 0);
        Check.due("never came", c.fact(115), BAD);
        c.come(1, 1, 1);
        Check.due("came", c.fact(115), 1);
        Check.due("no job", c.fact(116), BAD);
        c.go(15);
        Check.due("gone", c.fact(115), 0);
    }

    /** "200 + j its LENGTH, 300 + j WEIGHT, 400 + j WISH .. (BAD: not there)" */
    private static void factTraits() {
        LiveChanges c = withJobs(15);
        for (int group = 200; group <= 400; group += 100) {
            Check.due("one below", c.fact(group - 1), BAD);
            Check.due("of 15: never came", c.fact(group + 15), BAD);
        }
        c.come(100, 50, 5);
        Check.due("length of 15", c.fact(215), 100);
        Check.due("weight of 15", c.fact(315), 50);
        Check.due("wish of 15", c.fact(415), 5);
        c.go(0);
        for (int group = 200; group <= 400; group += 100) {
            Check.due("of 0: gone", c.fact(group), BAD);
            Check.due("of 1: there", c.fact(group + 1) != BAD);
            Check.due("of 16: no job", c.fact(group + 16), BAD);
        }
    }

    /** "500 + j 1 and the ROOM to which it is LOCKED (0: to none; STATE: it is not) (BAD: not there)" */
    private static void factLocks() {
        LiveChanges c = withJobs(15);
        Check.due("not locked", c.fact(500), STATE);
        Check.due("never came", c.fact(515), BAD);
        for (int room = NONE; room <= 5; room++) {
            c.lock(14, room);
            Check.due("locked to " + room, c.fact(514), 1 + room);
        }
        c.free(14);
        Check.due("free", c.fact(514), STATE);
        c.lock(14, 3);
        c.go(14);
        Check.due("gone, was locked", c.fact(514), BAD);
        c.go(13);
        Check.due("gone, was not", c.fact(513), BAD);
        Check.due("no job", c.fact(516), BAD);
        Check.due("no job", c.fact(499), BAD);
    }

    /** "600 + r the SIZE of ROOM r" */
    private static void factSizes() {
        LiveChanges c = new LiveChanges();
        c.size(0, 1);
        c.size(5, 2);
        Check.due("fact(599)", c.fact(599), BAD);
        Check.due("fact(600)", c.fact(600), 1);
        Check.due("fact(605)", c.fact(605), 2);
        Check.due("fact(606)", c.fact(606), BAD);
        Check.due("fact(699)", c.fact(699), BAD);
        Check.due("fact(700)", c.fact(700), BAD);
    }

    /** "Of THE LATEST FACTS: .. BAD.": what stands between and beyond the numbers that are told. */
    private static void factGaps() {
        for (int from = 4; from < 800; from += 400) {
            LiveChanges c = withJobs(16);
            for (int what = from; what < from + 400; what++) {
                boolean ofJob = what >= 100 && what < 600 && what % 100 < 16;
                boolean ofRoom = what >= 600 && what < 606;
                if (!ofJob && !ofRoom) {
                    Check.due("fact " + what, c.fact(what), BAD);
                }
            }
        }
        LiveChanges c = withJobs(16);
        for (int what : new int[] {-1, -2, -84, -99, -100, -101, -184, -200, -600, 1000, 1100, 10100,
            Integer.MIN_VALUE, Integer.MIN_VALUE + 48, Integer.MAX_VALUE, Integer.MAX_VALUE - 47}) {
            Check.due("fact " + what, c.fact(what), BAD);
        }
    }

    /** "Of CHANGE i: its KIND. BAD.": changes are numbered from 1. */
    private static void changesAre1ToAll() {
        LiveChanges c = new LiveChanges();
        Check.due("none", c.change(1), BAD);
        c.size(0, 1);
        Check.due("change(0)", c.change(0), BAD);
        Check.due("change(1)", c.change(1), 3);
        Check.due("change(2)", c.change(2), BAD);
        fillTo(c, 120);
        Check.due("change(0)", c.change(0), BAD);
        Check.due("change(1)", c.change(1), 3);
        Check.due("change(120)", c.change(120), 3);
        Check.due("change(121)", c.change(121), BAD);
        Check.due("change(-1)", c.change(-1), BAD);
        for (int far : Scene.FAR) {
            Check.due("change far", c.change(far), BAD);
        }
    }

    /** "KINDS of CHANGES: 0 .. 7" */
    private static void kinds() {
        LiveChanges c = forAllCalls(5);
        Check.due("kind of come", c.change(3), 0);
        Check.due("kind of lock", c.change(4), 6);
        Check.due("kind of apart", c.change(5), 4);
        for (int i = CALLS.size() - 1; i >= 0; i--) {
            Call call = CALLS.get(i);
            Check.due(call.name, call.call.applyAsInt(c), c.fact(2));
            Check.due("kind of " + call.name, c.change(c.fact(2)), call.kind);
        }
    }
}
