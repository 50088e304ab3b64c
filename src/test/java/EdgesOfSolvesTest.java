import java.util.Arrays;

/**
 * The edges that the document names for plans, solves, steps and marks (its parts 2 to 4, promises
 * 9 to 18): each test has the sentence whose edge it looks at.
 */
public final class EdgesOfSolvesTest {
    private static final int NONE = -1, BAD = -2, STATE = -3, FULL = -4;
    private static final int LEAST = Integer.MIN_VALUE;

    public static void main(String[] args) {
        noFactsOfNoChanges();
        lengthsUpToTheSize();
        lengthsAreOfEachRoom();
        apartInOneRoomAlone();
        softByDistance();
        softInNone();
        hardIsAheadOfSoft();
        likeScoresAreNotBetter();
        lateIs1To8();
        solvesAre0To2();
        badIsAheadOfFull();
        seedIsAnyInt();
        noSuchSolve();
        aNewSolve();
        takenIs0AtFirst();
        takeTo0ToAll();
        takenStaysTaken();
        takeOfTheWholeLog();
        comesIntoNone();
        goneIsLeftOut();
        lockedFromThenOn();
        catchesUpOnlyIfThereIsOne();
        lateIsFilledByCatchingUp();
        stepsAre0To200();
        stepsOf0CatchUp();
        refusedStepsDoNotCatchUp();
        xWraps();
        xBelow0();
        nothingIsTriedWithNone();
        nothingIsTriedWithAllLocked();
        oneJobAlone();
        sixteenJobs();
        threeOfFourSwaps();
        swapWithItself();
        sixIsNone();
        likeThePlan();
        likeThePlanThoughLateIsBetter();
        likeLate();
        plansThatAreNotTaken();
        latePlaceWraps();
        marksAre0And1();
        noSuchMark();
        marksAreOfTheirSolve();
        markOfNothing();
        markAnew();
        backToWhatItIs();
        backThenCatchesUpToItsOwn();
        backKeepsTAndX();
        jobsOfRoomAre0To15();
        notThereByItsFacts();
        scoreByOf0ToAll();
        scoreByPutsTheUnknownInNone();
        scoreByDoesNotLock();
        sameOfOne();
        sameNeedsAllThree();
        toldIs0To6();
        leastIntMayBeX();
        fiveHundredAndTwelveCalls();
        Check.end("EdgesOfSolvesTest");
    }

    /** One solve, of the seed and the late length, with n jobs of length 10, weight 1, wish 0. */
    private static LiveChanges withJobs(int n, int seed, int late) {
        LiveChanges c = new LiveChanges();
        for (int j = 0; j < n; j++) {
            c.come(10, 1, 0);
        }
        c.solve(seed, late);
        return c;
    }

    /** "FACTS are what the first n of them make .. (n 0: nothing is there)" */
    private static void noFactsOfNoChanges() {
        LiveChanges c = withJobs(3, 1, 1);
        c.size(0, 0);
        c.lock(0, 0);
        c.step(0, 0);
        Scene.dueScore(c, 0, false, 10, 16);
        Check.due("hard by 0", c.scoreBy(0, false, true, 0), 0);
        Check.due("soft by 0", c.scoreBy(0, false, false, 0), 0);
        Check.due("soft by 1", c.scoreBy(0, false, false, 1), 0);
        Check.due("soft by 2", c.scoreBy(0, false, false, 2), 8);
        Check.due("soft by all", c.scoreBy(0, false, false, 5), 16);
        Check.due("hard by all", c.scoreBy(0, false, true, 5), 10);
        Check.due("soft by 0, behind all", c.scoreBy(0, false, false, 0), 0);
        Check.due("hard by all", c.scoreBy(0, false, true, 5), 10);
        Check.due("hard by 1, behind all", c.scoreBy(0, false, true, 1), 0);
    }

    /** "of each ROOM the LENGTHS of its JOBS together, as far as they are above its SIZE" */
    private static void lengthsUpToTheSize() {
        LiveChanges c = withJobs(2, 1, 1);
        c.lock(0, 3);
        c.lock(1, 3);
        int[][] sizeAndHard = {{400, 0}, {21, 0}, {20, 0}, {19, 1}, {1, 19}, {0, 20}};
        for (int[] row : sizeAndHard) {
            c.size(3, row[0]);
            c.step(0, 0);
            Check.due("hard with size " + row[0], c.score(0, false, true), row[1]);
        }
        c.size(2, 0);
        c.size(3, 20);
        c.step(0, 0);
        Check.due("an empty room of no size", c.score(0, false, true), 0);
    }

    /** "of each ROOM": what one has left does not help another. */
    private static void lengthsAreOfEachRoom() {
        LiveChanges c = new LiveChanges();
        c.solve(1, 1);
        for (int j = 0; j < 16; j++) {
            c.come(100, 0, 0);
            c.lock(j, j % 6);
        }
        c.step(0, 0);
        Check.due("300, 300, 300, 300, 200, 200", c.score(0, false, true), 4 * 200 + 2 * 100);
        c.size(0, 400);
        c.step(0, 0);
        Check.due("room 0 is large", c.score(0, false, true), 3 * 200 + 2 * 100);
        c.size(5, 0);
        c.step(0, 0);
        Check.due("room 5 has none", c.score(0, false, true), 3 * 200 + 100 + 200);
    }

    /** "of each two JOBS that are to be APART and are in one ROOM 10": NONE is no ROOM. */
    private static void apartInOneRoomAlone() {
        LiveChanges c = withJobs(3, 1, 1);
        c.apart(2, 0, true);
        c.step(0, 0);
        Check.due("both in none", c.score(0, false, true), 0);
        c.lock(0, NONE);
        c.lock(2, NONE);
        c.step(0, 0);
        Check.due("both locked to none", c.score(0, false, true), 0);
        c.lock(0, 0);
        c.step(0, 0);
        Check.due("one in room 0", c.score(0, false, true), 0);
        c.lock(2, 0);
        c.step(0, 0);
        Check.due("both in room 0", c.score(0, false, true), 10);
        c.lock(1, 0);
        c.step(0, 0);
        Check.due("a third is none of them", c.score(0, false, true), 10);
        c.lock(2, 1);
        c.step(0, 0);
        Check.due("in two rooms", c.score(0, false, true), 0);
        c.lock(0, 5);
        c.lock(2, 5);
        c.step(0, 0);
        Check.due("both in room 5", c.score(0, false, true), 10);
        c.apart(0, 2, false);
        c.step(0, 0);
        Check.due("they need not", c.score(0, false, true), 0);
        Check.due("by the changes ahead of that", c.scoreBy(0, false, true, 12), 10);
        Check.due("by those ahead of all that is told of them", c.scoreBy(0, false, true, 3), 0);
    }

    /** "of each JOB in a ROOM its WEIGHT times how far its ROOM is from its WISH (by numbers)" */
    private static void softByDistance() {
        for (int wish = 0; wish <= 5; wish += 5) {
            LiveChanges c = new LiveChanges();
            c.come(1, 50, wish);
            c.solve(1, 1);
            for (int room = 0; room <= 5; room++) {
                c.lock(0, room);
                c.step(0, 0);
                Check.due("soft", c.score(0, false, false), 50 * (wish == 0 ? room : 5 - room));
            }
            c.turn(0, 1, 0, 2);
            c.step(0, 0);
            Check.due("without weight", c.score(0, false, false), 0);
        }
    }

    /** "of each that is in none 7 times its WEIGHT and 1" */
    private static void softInNone() {
        LiveChanges c = new LiveChanges();
        c.solve(1, 1);
        c.come(1, 0, 0);
        c.step(0, 0);
        Check.due("weight 0", c.score(0, false, false), 1);
        c.come(1, 1, 5);
        c.step(0, 0);
        Check.due("weight 1 more", c.score(0, false, false), 1 + 8);
        for (int j = 2; j < 16; j++) {
            c.come(100, 50, 3);
        }
        c.step(0, 0);
        Scene.dueScore(c, 0, true, 0, 1 + 8 + 14 * 351);
    }

    /** "that with the lesser HARD, of like ones with the lesser SOFT, is BETTER" */
    private static void hardIsAheadOfSoft() {
        LiveChanges c = new LiveChanges();
        c.come(100, 50, 5);
        c.size(5, 99);
        c.solve(Scene.seedFor(Scene.moves(1, 0, 5)), 1);
        Check.due("1 more hard, 351 less soft", c.step(0, 1), 0);
        Scene.dueScore(c, 0, false, 0, 351);
        c.lock(0, 5);
        c.free(0);
        c.solve(Scene.seedFor(Scene.moves(1, 0, 6)), 1);
        Check.due("1 less hard, 351 more soft", c.step(1, 1), 1);
        Scene.dueRooms(c, 1, true, NONE);
        Scene.dueScore(c, 1, true, 0, 351);
        c.solve(Scene.seedFor(Scene.moves(1, 0, 4)), 1);
        Check.due("1 less hard, 50 more soft", c.step(2, 1), 1);
        Scene.dueScore(c, 2, true, 0, 50);
    }

    /** "BEST becomes it" only if BETTER: of like ones the older stays. */
    private static void likeScoresAreNotBetter() {
        LiveChanges c = new LiveChanges();
        c.come(10, 1, 2);
        c.solve(Scene.seedFor(Scene.moves(1, 0, 1), Scene.moves(1, 0, 3)), 1);
        Check.due("both become the plan", c.step(0, 2), 2);
        Scene.dueRooms(c, 0, false, 3);
        Scene.dueRooms(c, 0, true, 1);
        Check.due("best became the plan", c.told(0, 3), 1);
        c.size(0, 1);
        c.take(0, 2);
        Scene.dueRooms(c, 0, true, 1);
        Check.due("nor by catching up", c.told(0, 3), 1);
        c.size(1, 9);
        c.take(0, 3);
        Scene.dueRooms(c, 0, true, 3);
        Check.due("better now", c.told(0, 3), 2);
    }

    /** "BAD: late is not 1 .. 8" */
    private static void lateIs1To8() {
        for (int late = 1; late <= 8; late++) {
            LiveChanges c = new LiveChanges();
            Check.due("late " + late, c.solve(1, late), 0);
        }
        LiveChanges c = new LiveChanges();
        Check.due("late 0", c.solve(1, 0), BAD);
        Check.due("late -1", c.solve(1, -1), BAD);
        Check.due("late 9", c.solve(1, 9), BAD);
        for (int far : Scene.FAR) {
            Check.due("late far", c.solve(1, far), BAD);
        }
        Check.due("no solve came of that", c.fact(3), 0);
        Check.due("the first is 0", c.solve(1, 1), 0);
    }

    /** "SOLVES 0 .. 2", "FULL." */
    private static void solvesAre0To2() {
        LiveChanges c = new LiveChanges();
        for (int s = 0; s <= 2; s++) {
            Check.due("not there yet", c.told(s, 0), LEAST);
            Check.due("solve", c.solve(s, 1), s);
            Check.due("there", c.told(s, 4), s);
        }
        Check.due("a fourth", c.solve(9, 1), FULL);
        Check.due("a fourth again", c.solve(9, 8), FULL);
        Check.due("no number 3", c.told(3, 0), LEAST);
        Check.due("solves", c.fact(3), 3);
        Check.due("the last is as it was", c.told(2, 4), 2);
    }

    /** "the first that fits: BAD .., FULL" */
    private static void badIsAheadOfFull() {
        LiveChanges c = new LiveChanges();
        for (int s = 0; s <= 2; s++) {
            c.solve(s, 1);
        }
        Check.due("late 0", c.solve(1, 0), BAD);
        Check.due("late 9", c.solve(1, 9), BAD);
        Check.due("late 8", c.solve(1, 8), FULL);
    }

    /** "x (an int, its seed at first)" */
    private static void seedIsAnyInt() {
        for (int seed : new int[] {0, 1, -1, Integer.MAX_VALUE, Integer.MIN_VALUE}) {
            LiveChanges c = new LiveChanges();
            Check.due("solve", c.solve(seed, 1), 0);
            Check.due("x", c.told(0, 4), seed);
        }
    }

    /** "no such SOLVE": below 0, not made yet, above 2. */
    private static void noSuchSolve() {
        LiveChanges c = withJobs(2, 1, 1);
        c.solve(2, 2);
        c.step(0, 3);
        c.mark(0, 0);
        for (int solve : new int[] {-1, 2, 3, 4, Integer.MIN_VALUE, Integer.MIN_VALUE + 1,
            Integer.MAX_VALUE}) {
            Check.due("take", c.take(solve, 0), BAD);
            Check.due("step", c.step(solve, 0), BAD);
            Check.due("mark", c.mark(solve, 0), BAD);
            Check.due("back", c.back(solve, 0), BAD);
            Check.due("room", c.room(solve, false, 0), BAD);
            Check.due("score", c.score(solve, true, true), BAD);
            Check.due("scoreBy", c.scoreBy(solve, true, true, 0), BAD);
            Check.due("same", c.same(solve, 0), BAD);
            Check.due("same", c.same(0, solve), BAD);
            Check.due("same", c.same(solve, solve), BAD);
            Check.due("told", c.told(solve, 0), LEAST);
        }
    }

    /** "a row LATE of L SCORES, at first all that of the PLAN": a new one knows of nothing. */
    private static void aNewSolve() {
        LiveChanges c = new LiveChanges();
        c.come(10, 10, 1);
        c.lock(0, 1);
        for (int late = 1; late <= 8; late += 7) {
            int s = c.solve(5, late);
            for (int what = 0; what <= 6; what++) {
                Check.due("told " + what, c.told(s, what), what == 4 ? 5 : 0);
            }
            Scene.dueScore(c, s, false, 0, 0);
            Scene.dueScore(c, s, true, 0, 0);
            Scene.dueRooms(c, s, false, STATE, STATE);
            Scene.dueRooms(c, s, true, STATE, STATE);
        }
        Check.due("alike, though L is not", c.same(0, 1), 1);
    }

    /** "have TAKEN so many CHANGES (0 at first)" */
    private static void takenIs0AtFirst() {
        LiveChanges c = new LiveChanges();
        for (int i = 1; i <= 120; i++) {
            c.size(0, i);
        }
        c.solve(1, 1);
        Check.due("taken", c.told(0, 1), 0);
        Check.due("mark", c.mark(0, 0), 0);
        Check.due("it takes but one", c.take(0, 1), 1);
        Check.due("taken", c.told(0, 1), 1);
    }

    /** "CATCHES UP to CHANGE n (0 .. all ..)" */
    private static void takeTo0ToAll() {
        LiveChanges c = new LiveChanges();
        c.solve(1, 1);
        Check.due("0 of 0", c.take(0, 0), 0);
        Check.due("1 of 0", c.take(0, 1), BAD);
        Check.due("-1 of 0", c.take(0, -1), BAD);
        c.come(1, 1, 1);
        c.come(1, 1, 1);
        Check.due("3 of 2", c.take(0, 3), BAD);
        Check.due("-1 of 2", c.take(0, -1), BAD);
        for (int far : Scene.FAR) {
            Check.due("far", c.take(0, far), BAD);
        }
        Check.due("nothing taken", c.told(0, 1), 0);
        Check.due("0 of 2", c.take(0, 0), 0);
        Check.due("2 of 2", c.take(0, 2), 2);
    }

    /** "what it has TAKEN stays TAKEN" */
    private static void takenStaysTaken() {
        LiveChanges c = withJobs(4, 1, 1);
        Check.due("take 3", c.take(0, 3), 3);
        for (int n = 0; n <= 3; n++) {
            Check.due("take " + n, c.take(0, n), 0);
            Check.due("taken", c.told(0, 1), 3);
            Scene.dueRooms(c, 0, false, NONE, NONE, NONE, STATE);
            Scene.dueScore(c, 0, true, 0, 24);
        }
        Check.due("take 4", c.take(0, 4), 1);
    }

    /** All 120 at once, and one by one: with nothing between them they come to the same. */
    private static void takeOfTheWholeLog() {
        LiveChanges c = withJobs(16, 3, 2);
        for (int i = 17; i <= 120; i++) {
            c.lock(i % 16, i % 7 - 1);
        }
        c.solve(4, 5);
        Check.due("all", c.take(0, 120), 120);
        for (int i = 1; i <= 120; i++) {
            Check.due("one", c.take(1, i), 1);
        }
        Check.due("same", c.same(0, 1), 1);
        Check.due("none is left", c.take(0, 120), 0);
        Check.due("no 121st", c.take(0, 121), BAD);
        Check.due("soft", c.score(0, false, false), c.score(1, true, false));
    }

    /** "in PLAN and BEST a JOB that comes is in NONE" */
    private static void comesIntoNone() {
        LiveChanges c = withJobs(1, Scene.seedFor(Scene.moves(1, 0, 0)), 1);
        c.step(0, 1);
        c.come(10, 1, 0);
        Scene.dueRooms(c, 0, false, 0, STATE);
        c.take(0, 2);
        Scene.dueRooms(c, 0, false, 0, NONE);
        Scene.dueRooms(c, 0, true, 0, NONE);
        Scene.dueScore(c, 0, true, 0, 8);
    }

    /** "one that goes is left out": the last one, too. */
    private static void goneIsLeftOut() {
        LiveChanges c = withJobs(2, 1, 3);
        c.lock(0, 4);
        c.lock(1, 4);
        c.size(4, 5);
        c.step(0, 0);
        Scene.dueScore(c, 0, false, 15, 8);
        c.go(0);
        c.step(0, 0);
        Scene.dueRooms(c, 0, true, STATE, 4);
        Scene.dueScore(c, 0, true, 5, 4);
        c.go(1);
        c.step(0, 0);
        Scene.dueRooms(c, 0, false, STATE, STATE);
        Scene.dueScore(c, 0, false, 0, 0);
        Scene.dueScore(c, 0, true, 0, 0);
        Check.due("late", c.told(0, 5), 0);
        Check.due("came and went in one go", cameAndWent(), 2);
    }

    private static int cameAndWent() {
        LiveChanges c = new LiveChanges();
        c.solve(1, 1);
        c.come(1, 1, 1);
        c.go(0);
        int took = c.take(0, 2);
        Check.due("not there", c.room(0, false, 0), STATE);
        Scene.dueScore(c, 0, true, 0, 0);
        return took;
    }

    /** "one that is LOCKED is where it is LOCKED to (from then on)" */
    private static void lockedFromThenOn() {
        for (int room = NONE; room <= 5; room++) {
            LiveChanges c = withJobs(2, 11, 4);
            c.step(0, 20);
            c.lock(1, room);
            Check.due("not before it is taken", c.told(0, 1), 2);
            for (int i = 0; i < 20; i++) {
                c.step(0, 10);
                Check.due("in the plan", c.room(0, false, 1), room);
                Check.due("in best", c.room(0, true, 1), room);
            }
            c.free(1);
            c.step(0, 0);
            Check.due("free, it is there yet", c.room(0, true, 1), room);
            c.step(0, 200);
            Check.due("free, it is moved", c.room(0, true, 1), 0);
        }
    }

    /** "if there was one": with none, LATE and BEST stay. */
    private static void catchesUpOnlyIfThereIsOne() {
        LiveChanges c = withJobs(1, Scene.seedFor(Scene.moves(1, 0, 0)), 2);
        c.step(0, 1);
        Scene.dueScore(c, 0, false, 0, 0);
        Check.due("late, of the first plan", c.told(0, 6), 8);
        c.take(0, 0);
        Check.due("take 0", c.told(0, 6), 8);
        c.take(0, 1);
        Check.due("take what is taken", c.told(0, 6), 8);
        c.step(0, 0);
        Check.due("step 0", c.told(0, 6), 8);
        c.size(5, 5);
        Check.due("not taken yet", c.told(0, 6), 8);
        c.step(0, 0);
        Check.due("late, of the plan", c.told(0, 6), 0);
    }

    /** "all of LATE become the SCORE of the PLAN" */
    private static void lateIsFilledByCatchingUp() {
        for (int late = 1; late <= 8; late++) {
            LiveChanges c = withJobs(4, 5, late);
            c.step(0, 13);
            for (int j = 0; j < 4; j++) {
                c.lock(j, 2);
            }
            c.size(2, 7);
            c.take(0, 9);
            for (int i = 0; i <= late; i++) {
                Check.due("late hard", c.told(0, 5), 33);
                Check.due("late soft", c.told(0, 6), 8);
                c.step(0, 1);
            }
        }
    }

    /** "makes n STEPS (0 .. 200)" */
    private static void stepsAre0To200() {
        LiveChanges c = withJobs(1, 1, 1);
        Check.due("-1", c.step(0, -1), BAD);
        Check.due("201", c.step(0, 201), BAD);
        for (int far : Scene.FAR) {
            Check.due("far", c.step(0, far), BAD);
        }
        Check.due("T", c.told(0, 0), 0);
        Check.due("x", c.told(0, 4), 1);
        Check.due("0", c.step(0, 0), 0);
        Check.due("T", c.told(0, 0), 0);
        Check.due("x", c.told(0, 4), 1);
        Check.due("1", c.step(0, 1) >= 0);
        Check.due("T", c.told(0, 0), 1);
        Check.due("200", c.step(0, 200) >= 0);
        Check.due("T", c.told(0, 0), 201);
    }

    /** "CATCHING UP to all CHANGES ahead of the first one (with n 0, too)" */
    private static void stepsOf0CatchUp() {
        LiveChanges c = withJobs(2, 1, 1);
        Check.due("0 steps", c.step(0, 0), 0);
        Check.due("taken", c.told(0, 1), 2);
        Scene.dueRooms(c, 0, true, NONE, NONE);
        c.lock(0, 3);
        Check.due("0 steps", c.step(0, 0), 0);
        Scene.dueRooms(c, 0, true, 3, NONE);
        Check.due("late", c.told(0, 6), 11);
    }

    /** "They change nothing": a step that is BAD takes no change. */
    private static void refusedStepsDoNotCatchUp() {
        LiveChanges c = withJobs(2, 1, 1);
        c.step(0, 201);
        Check.due("taken", c.told(0, 1), 0);
        c.step(0, -1);
        Check.due("taken", c.told(0, 1), 0);
        c.take(0, 3);
        Check.due("taken", c.told(0, 1), 0);
        c.step(1, 0);
        Check.due("taken", c.told(0, 1), 0);
        Check.due("no job", c.room(0, false, 0), STATE);
    }

    /** "x becomes x * 1103515245 + 12345 (an int that wraps)" */
    private static void xWraps() {
        for (int seed : new int[] {0, 1, -1, 2, Integer.MAX_VALUE, Integer.MIN_VALUE}) {
            LiveChanges c = withJobs(1, seed, 1);
            long x = seed;
            for (int i = 0; i < 50; i++) {
                c.step(0, 1);
                x = (x * 1103515245L + 12345L) & 0xFFFFFFFFL;
                x = x >= 0x80000000L ? x - 0x100000000L : x;
                Check.due("x of seed " + seed, c.told(0, 4), x);
            }
        }
    }

    /** "number (x >>> 16) % m", "ROOM (x >>> 24) % 7": of an x below 0, too. */
    private static void xBelow0() {
        for (int sign = -1; sign <= 1; sign += 2) {
            for (int j = 0; j < 3; j++) {
                for (int room = 0; room <= 5; room++) {
                    int want = sign;
                    int seed = Scene.seedFor(Scene.moves(3, j, room).and(x -> x < 0 == want < 0));
                    LiveChanges c = withJobs(3, seed, 1);
                    Check.due("step", c.step(0, 1), 1);
                    Check.due("room", c.room(0, false, j), room);
                }
            }
        }
    }

    /** "with none, nothing is tried", "(also when nothing was tried) .. T is one more" */
    private static void nothingIsTriedWithNone() {
        LiveChanges c = new LiveChanges();
        c.solve(8, 3);
        Check.due("200 steps", c.step(0, 200), 0);
        Check.due("T", c.told(0, 0), 200);
        Check.due("tried", c.told(0, 2), 0);
        Check.due("best", c.told(0, 3), 0);
        int x = 8;
        for (int i = 0; i < 200; i++) {
            x = Scene.next(x);
        }
        Check.due("x", c.told(0, 4), x);
        c.come(1, 1, 1);
        c.go(0);
        Check.due("all are gone", c.step(0, 200), 0);
        Check.due("T", c.told(0, 0), 400);
    }

    /** "Of the JOBS that are there and not LOCKED .. with none": locked to none is locked, too. */
    private static void nothingIsTriedWithAllLocked() {
        LiveChanges c = withJobs(1, Scene.seedFor(Scene.moves(1, 0, 0)), 2);
        c.step(0, 1);
        c.lock(0, 3);
        Check.due("locked", c.step(0, 199), 0);
        Check.due("T", c.told(0, 0), 200);
        Check.due("late", c.told(0, 6), 3);
        Check.due("tried", c.told(0, 2), 1);
        c.lock(0, NONE);
        Check.due("locked to none", c.step(0, 200), 0);
        Scene.dueRooms(c, 0, true, NONE);
        c.free(0);
        Check.due("free", c.step(0, 200) > 0);
    }

    /** "m of them": with one, it is both j and k. */
    private static void oneJobAlone() {
        LiveChanges c = new LiveChanges();
        c.come(10, 0, 3);
        c.lock(0, 2);
        c.free(0);
        c.solve(77, 1);
        int x = 77;
        int room = 2;
        for (int i = 0; i < 100; i++) {
            x = Scene.next(x);
            boolean toNone = (x >>> 8) % 4 != 3 && (x >>> 24) % 7 == 6;
            if ((x >>> 8) % 4 != 3 && !toNone) {
                room = (x >>> 24) % 7;
            }
            Check.due("step", c.step(0, 1), toNone ? 0 : 1);
            Check.due("room", c.room(0, false, 0), room);
        }
    }

    /** "number (x >>> 16) % m of them (from 0)": the first and the last of 16. */
    private static void sixteenJobs() {
        for (int j = 0; j < 16; j += 15) {
            LiveChanges c = withJobs(16, Scene.seedFor(Scene.moves(16, j, 5)), 1);
            Check.due("step", c.step(0, 1), 1);
            for (int job = 0; job < 16; job++) {
                Check.due("room of " + job, c.room(0, false, job), job == j ? 5 : NONE);
            }
            LiveChanges d = withJobs(16, Scene.seedFor(Scene.swaps(16, j, 15 - j)), 1);
            d.lock(15, 0);
            d.take(0, 17);
            d.free(15);
            Check.due("swap", d.step(0, 1), 1);
            Scene.dueRooms(d, 0, false, 0, NONE);
            Check.due("room of 15", d.room(0, false, 15), NONE);
        }
    }

    /** "If (x >>> 8) % 4 is 3: .. j and k change their ROOMS; else j comes to ROOM": 0, 1, 2 move. */
    private static void threeOfFourSwaps() {
        for (int kind = 0; kind <= 3; kind++) {
            int of4 = kind;
            LiveChanges c = new LiveChanges();
            c.come(10, 0, 0);
            c.come(10, 0, 0);
            c.lock(0, 1);
            c.lock(1, 2);
            c.free(0);
            c.free(1);
            c.solve(Scene.seedFor(x -> (x >>> 8) % 4 == of4 && (x >>> 16) % 2 == 0
                && (x >>> 20) % 2 == 1 && (x >>> 24) % 7 == 4), 1);
            Check.due("step", c.step(0, 1), 1);
            Scene.dueRooms(c, 0, false, kind == 3 ? 2 : 4, kind == 3 ? 1 : 2);
        }
    }

    /** "k is number (x >>> 20) % m": it may be j, and the plan that is tried is like the PLAN. */
    private static void swapWithItself() {
        LiveChanges c = withJobs(3, Scene.seedFor(Scene.swaps(3, 2, 2), Scene.swaps(3, 0, 0)), 4);
        Check.due("both became the plan", c.step(0, 2), 2);
        Scene.dueRooms(c, 0, false, NONE, NONE, NONE);
        Check.due("best did not", c.told(0, 3), 0);
        Check.due("tried", c.told(0, 2), 2);
    }

    /** "j comes to ROOM (x >>> 24) % 7 (6: NONE)" */
    private static void sixIsNone() {
        for (int room = 0; room <= 6; room++) {
            LiveChanges c = new LiveChanges();
            c.come(10, 0, 0);
            c.lock(0, 3);
            c.size(3, 9);
            c.free(0);
            c.solve(Scene.seedFor(Scene.moves(1, 0, room)), 1);
            Check.due("step", c.step(0, 1), 1);
            Scene.dueRooms(c, 0, false, room == 6 ? NONE : room);
            Scene.dueScore(c, 0, true, room == 3 ? 1 : 0, room == 6 ? 1 : 0);
        }
    }

    /** "becomes the PLAN if the PLAN is not BETTER than it": a like one does, a worse one does not. */
    private static void likeThePlan() {
        for (int room = 0; room <= 4; room++) {
            LiveChanges c = new LiveChanges();
            c.come(10, 1, 2);
            c.solve(Scene.seedFor(Scene.moves(1, 0, 1), Scene.moves(1, 0, room)), 1);
            boolean worse = room == 0 || room == 4;
            Check.due("to room " + room, c.step(0, 2), worse ? 1 : 2);
            Scene.dueRooms(c, 0, false, worse ? 1 : room);
            Scene.dueRooms(c, 0, true, room == 2 ? 2 : 1);
        }
    }

    /** "if the PLAN is not BETTER than it, or ..": one of the two is enough. */
    private static void likeThePlanThoughLateIsBetter() {
        for (int room = 2; room <= 4; room++) {
            int seed = Scene.seedFor(Scene.moves(1, 0, 0), Scene.moves(1, 0, 3),
                Scene.moves(1, 0, room));
            LiveChanges c = withJobs(1, seed, 2);
            Check.due("both become the plan", c.step(0, 2), 2);
            Check.due("late", c.told(0, 6), 0);
            Check.due("to room " + room, c.step(0, 1), room <= 3 ? 1 : 0);
            Scene.dueRooms(c, 0, false, room == 2 ? 2 : 3);
        }
    }

    /** "This TRIED PLAN becomes the PLAN if ..": else the PLAN is as it was, after swaps, too. */
    private static void plansThatAreNotTaken() {
        for (int j = 0; j < 2; j++) {
            LiveChanges c = new LiveChanges();
            c.come(10, 1, 1);
            c.come(10, 1, 4);
            c.lock(0, 1);
            c.lock(1, 4);
            c.free(0);
            c.free(1);
            c.solve(Scene.seedFor(Scene.swaps(2, j, 1 - j), Scene.moves(2, j, 6)), 1);
            Check.due("none becomes the plan", c.step(0, 2), 0);
            Scene.dueRooms(c, 0, false, 1, 4);
            Scene.dueScore(c, 0, false, 0, 0);
            Check.due("T", c.told(0, 0), 2);
        }
    }

    /** "or the SCORE of LATE at place T % L is not BETTER than it": a like one, one worse by 1. */
    private static void likeLate() {
        for (int room = 3; room <= 5; room++) {
            int seed = Scene.seedFor(Scene.moves(1, 0, 0), Scene.moves(1, 0, room));
            LiveChanges c = withJobs(1, seed, 2);
            c.lock(0, 4);
            c.take(0, 2);
            c.free(0);
            Check.due("to room " + room, c.step(0, 2), room <= 4 ? 2 : 1);
            Scene.dueRooms(c, 0, false, room <= 4 ? room : 0);
            Scene.dueRooms(c, 0, true, 0);
        }
    }

    /** "that place of LATE becomes the SCORE of the PLAN": at T % L stands the score of L steps ago. */
    private static void latePlaceWraps() {
        for (int late = 1; late <= 8; late++) {
            LiveChanges c = withJobs(3, 21, late);
            c.size(0, 15);
            c.step(0, 0);
            int[] hard = new int[40 + late];
            int[] soft = new int[40 + late];
            Arrays.fill(soft, 0, late, 24);
            for (int t = 0; t < 40; t++) {
                Check.due("late hard, L " + late + ", T " + t, c.told(0, 5), hard[t]);
                Check.due("late soft, L " + late + ", T " + t, c.told(0, 6), soft[t]);
                c.step(0, 1);
                hard[t + late] = c.score(0, false, true);
                soft[t + late] = c.score(0, false, false);
            }
        }
    }

    /** "A SOLVE's MARK k (0, 1)" */
    private static void marksAre0And1() {
        LiveChanges c = withJobs(1, 1, 1);
        for (int k : new int[] {-1, 2, 3, Integer.MIN_VALUE, Integer.MAX_VALUE}) {
            Check.due("mark " + k, c.mark(0, k), BAD);
            Check.due("back " + k, c.back(0, k), BAD);
        }
        Check.due("no mark came of that", c.back(0, 0), STATE);
        Check.due("no mark came of that", c.back(0, 1), STATE);
        Check.due("mark 1", c.mark(0, 1), 0);
        Check.due("mark 0", c.mark(0, 0), 0);
    }

    /** "STATE: there is no such MARK." */
    private static void noSuchMark() {
        LiveChanges c = withJobs(1, 1, 1);
        Check.due("none", c.back(0, 0), STATE);
        Check.due("none", c.back(0, 1), STATE);
        Check.due("nothing is taken by that", c.told(0, 1), 0);
        c.mark(0, 1);
        Check.due("the other", c.back(0, 0), STATE);
        Check.due("this one", c.back(0, 1), 0);
        Check.due("it stays", c.back(0, 1), 0);
    }

    /** "A MARK of a SOLVE (2 of each)" */
    private static void marksAreOfTheirSolve() {
        LiveChanges c = withJobs(3, 1, 1);
        c.solve(1, 1);
        c.solve(1, 1);
        for (int s = 0; s < 3; s++) {
            c.take(s, s + 1);
            Check.due("mark 0", c.mark(s, 0), s + 1);
            for (int other = s + 1; other < 3; other++) {
                Check.due("another's", c.back(other, 0), STATE);
            }
        }
        for (int s = 0; s < 3; s++) {
            c.step(s, 0);
            Check.due("mark 1", c.mark(s, 1), 3);
        }
        for (int s = 0; s < 3; s++) {
            Check.due("back to 0", c.back(s, 0), s + 1);
            Check.due("back to 1", c.back(s, 1), 3);
        }
    }

    /** A mark that was made before anything was taken: the solve goes through all changes anew. */
    private static void markOfNothing() {
        LiveChanges c = new LiveChanges();
        c.solve(5, 8);
        c.mark(0, 0);
        c.come(10, 1, 0);
        c.lock(0, 2);
        c.free(0);
        c.come(20, 1, 0);
        c.step(0, 200);
        Check.due("moved", c.room(0, true, 0), 0);
        Check.due("back", c.back(0, 0), 0);
        Check.due("taken", c.told(0, 1), 4);
        Scene.dueRooms(c, 0, false, 2, NONE);
        Scene.dueRooms(c, 0, true, 2, NONE);
        Scene.dueScore(c, 0, true, 0, 10);
        Check.due("late", c.told(0, 6), 10);
    }

    /** "MARK k is what it is now": one that is made again is of then. */
    private static void markAnew() {
        LiveChanges c = withJobs(1, Scene.seedFor(Scene.moves(1, 0, 3), Scene.moves(1, 0, 0)), 1);
        Check.due("mark", c.mark(0, 0), 0);
        c.step(0, 1);
        Check.due("mark anew", c.mark(0, 0), 1);
        c.step(0, 1);
        Scene.dueRooms(c, 0, true, 0);
        Check.due("back", c.back(0, 0), 1);
        Scene.dueRooms(c, 0, false, 3);
        Scene.dueRooms(c, 0, true, 3);
    }

    /** "then it CATCHES UP": with nothing to take, LATE is as it was then, not that of the PLAN. */
    private static void backToWhatItIs() {
        LiveChanges c = withJobs(1, Scene.seedFor(Scene.moves(1, 0, 3), Scene.moves(1, 0, 0)), 2);
        c.step(0, 1);
        c.mark(0, 0);
        Check.due("late ahead of it", c.told(0, 6), 8);
        Check.due("back", c.back(0, 0), 1);
        Check.due("late", c.told(0, 6), 8);
        Scene.dueScore(c, 0, false, 0, 3);
        c.step(0, 1);
        Scene.dueScore(c, 0, true, 0, 0);
        Check.due("late at place 0", c.told(0, 6), 3);
        c.back(0, 0);
        Check.due("late at place 0", c.told(0, 6), 3);
        Scene.dueRooms(c, 0, false, 3);
        Scene.dueScore(c, 0, false, 0, 3);
        Scene.dueScore(c, 0, true, 0, 3);
        c.step(0, 1);
        Check.due("late at place 1 as it was then", c.told(0, 6), 8);
    }

    /** "it CATCHES UP to what it had TAKEN as it went back": no further. */
    private static void backThenCatchesUpToItsOwn() {
        LiveChanges c = withJobs(1, 1, 1);
        c.take(0, 1);
        c.mark(0, 0);
        c.lock(0, 1);
        c.lock(0, 2);
        c.lock(0, 3);
        c.take(0, 3);
        Check.due("back", c.back(0, 0), 1);
        Check.due("taken", c.told(0, 1), 3);
        Scene.dueRooms(c, 0, false, 2);
        Scene.dueScore(c, 0, false, 0, 2);
        Check.due("the last is left", c.take(0, 4), 1);
        Check.due("back again", c.back(0, 0), 1);
        Scene.dueRooms(c, 0, true, 3);
        Check.due("late", c.told(0, 6), 3);
    }

    /** "(T, x, L stay)", "ever" */
    private static void backKeepsTAndX() {
        LiveChanges c = withJobs(3, 31, 5);
        c.step(0, 7);
        c.mark(0, 0);
        c.step(0, 8);
        int x = c.told(0, 4);
        int tried = c.told(0, 2);
        int best = c.told(0, 3);
        c.back(0, 0);
        Check.due("T", c.told(0, 0), 15);
        Check.due("x", c.told(0, 4), x);
        Check.due("tried plans that became the plan, ever", c.told(0, 2), tried);
        Check.due("how often best became the plan, ever", c.told(0, 3), best);
    }

    /** "BAD: no such SOLVE, JOB (0 .. 15)" */
    private static void jobsOfRoomAre0To15() {
        LiveChanges c = withJobs(16, 1, 1);
        c.step(0, 0);
        for (int job : new int[] {-1, 16, 17, Integer.MIN_VALUE, Integer.MAX_VALUE}) {
            Check.due("room of " + job, c.room(0, false, job), BAD);
            Check.due("room of " + job, c.room(0, true, job), BAD);
        }
        Check.due("room of 0", c.room(0, false, 0), NONE);
        Check.due("room of 15", c.room(0, true, 15), NONE);
    }

    /** "STATE: by its FACTS the JOB is not there." */
    private static void notThereByItsFacts() {
        LiveChanges c = withJobs(1, 1, 1);
        Check.due("it does not know", c.room(0, false, 0), STATE);
        Check.due("it does not know", c.room(0, true, 0), STATE);
        Check.due("never came", c.room(0, false, 15), STATE);
        c.take(0, 1);
        Check.due("it knows", c.room(0, true, 0), NONE);
        c.go(0);
        Check.due("gone by the latest, not by its own", c.room(0, true, 0), NONE);
        c.take(0, 2);
        Check.due("gone", c.room(0, false, 0), STATE);
        Check.due("gone", c.room(0, true, 0), STATE);
    }

    /** "by the FACTS of n CHANGES .. BAD: also n." */
    private static void scoreByOf0ToAll() {
        LiveChanges c = new LiveChanges();
        c.solve(1, 1);
        Check.due("0 of 0", c.scoreBy(0, false, true, 0), 0);
        Check.due("1 of 0", c.scoreBy(0, false, true, 1), BAD);
        Check.due("-1 of 0", c.scoreBy(0, false, true, -1), BAD);
        c.come(1, 1, 1);
        for (int i = 2; i <= 120; i++) {
            c.turn(0, 1, i % 51, 1);
        }
        Check.due("119", c.scoreBy(0, false, false, 119), 7 * (119 % 51) + 1);
        Check.due("120", c.scoreBy(0, false, false, 120), 7 * (120 % 51) + 1);
        Check.due("2, behind 120", c.scoreBy(0, true, false, 2), 15);
        Check.due("121", c.scoreBy(0, false, false, 121), BAD);
        for (int far : Scene.FAR) {
            Check.due("far", c.scoreBy(0, true, false, far), BAD);
        }
        Check.due("nothing is taken by that", c.told(0, 1), 0);
    }

    /** "JOBS that are not there by its own are in NONE": not there yet, and gone. */
    private static void scoreByPutsTheUnknownInNone() {
        LiveChanges c = withJobs(2, 1, 1);
        c.lock(0, 1);
        c.lock(1, 1);
        c.size(1, 0);
        Check.due("not there yet", c.scoreBy(0, false, false, 5), 16);
        Check.due("not there yet", c.scoreBy(0, false, true, 5), 0);
        c.take(0, 5);
        Check.due("there", c.scoreBy(0, false, true, 5), 20);
        c.go(0);
        c.take(0, 6);
        Check.due("gone by its own, there by 5", c.scoreBy(0, false, true, 5), 10);
        Check.due("gone by its own, there by 5", c.scoreBy(0, true, false, 5), 9);
        c.go(1);
        Check.due("gone by 7, there by its own", c.scoreBy(0, true, true, 7), 0);
        Check.due("gone by 7, there by its own", c.scoreBy(0, true, false, 7), 0);
    }

    /** "LOCKS do not move it" */
    private static void scoreByDoesNotLock() {
        LiveChanges c = withJobs(1, 1, 1);
        c.lock(0, 1);
        c.take(0, 2);
        c.lock(0, 5);
        c.lock(0, NONE);
        Check.due("by 1", c.scoreBy(0, false, false, 1), 1);
        Check.due("by 3", c.scoreBy(0, false, false, 3), 1);
        Check.due("by 4", c.scoreBy(0, true, false, 4), 1);
        Scene.dueRooms(c, 0, false, 1);
        Scene.dueRooms(c, 0, true, 1);
    }

    /** "Whether two SOLVES ..": a solve is the same as itself. */
    private static void sameOfOne() {
        LiveChanges c = withJobs(3, 1, 1);
        Check.due("new", c.same(0, 0), 1);
        c.step(0, 20);
        Check.due("later", c.same(0, 0), 1);
        Check.due("no second", c.same(0, 1), BAD);
        Check.due("no second", c.same(1, 0), BAD);
    }

    /** "the same PLANS, BEST ones and TAKEN CHANGES": each of the three alone makes a 0. */
    private static void sameNeedsAllThree() {
        LiveChanges c = new LiveChanges();
        c.come(10, 0, 0);
        c.solve(Scene.seedFor(Scene.moves(1, 0, 2), Scene.moves(1, 0, 4), Scene.moves(1, 0, 2)), 1);
        c.solve(Scene.seedFor(Scene.moves(1, 0, 2)), 1);
        c.solve(Scene.seedFor(Scene.moves(1, 0, 4)), 1);
        c.step(1, 1);
        c.step(2, 1);
        c.step(0, 2);
        Check.due("best ones alike, plans not", c.same(0, 1), 0);
        Check.due("plans alike, best ones not", c.same(2, 0), 0);
        c.step(0, 1);
        Check.due("both alike", c.same(0, 1), 1);
        c.size(5, 5);
        c.take(1, 2);
        Check.due("taken not", c.same(0, 1), 0);
        c.take(0, 2);
        Check.due("all alike", c.same(1, 0), 1);
    }

    /** "0 T, .. 6 SOFT of LATE at place T % L. BAD: the least int." */
    private static void toldIs0To6() {
        LiveChanges c = withJobs(1, 1, 1);
        for (int what : new int[] {-1, 7, 8, Integer.MIN_VALUE, Integer.MAX_VALUE}) {
            Check.due("told " + what, c.told(0, what), LEAST);
            Check.due("told of none", c.told(1, what), LEAST);
        }
        for (int what = 0; what <= 6; what++) {
            Check.due("told " + what, c.told(0, what) != LEAST);
            Check.due("told of none", c.told(1, what), LEAST);
        }
    }

    /** "4 x": an x of -2 is no BAD, and the least int may be one. */
    private static void leastIntMayBeX() {
        LiveChanges c = new LiveChanges();
        c.solve(LEAST, 1);
        c.solve(-2, 1);
        c.solve(-3, 1);
        Check.due("x", c.told(0, 4), LEAST);
        Check.due("x", c.told(1, 4), -2);
        Check.due("x", c.told(2, 4), -3);
        c.step(0, 1);
        Check.due("x", c.told(0, 4), LEAST + 12345);
    }

    /** "An object is used for at most 512 calls": with all of them steps, and more are taken calmly. */
    private static void fiveHundredAndTwelveCalls() {
        LiveChanges c = withJobs(16, 13, 7);
        for (int call = 18; call <= 510; call++) {
            Check.due("step", c.step(0, 200) >= 0);
        }
        Check.due("T", c.told(0, 0), 493 * 200);
        int x = 13;
        for (int i = 0; i < 493 * 200; i++) {
            x = Scene.next(x);
        }
        Check.due("x", c.told(0, 4), x);
        for (int call = 513; call < 2000; call++) {
            c.step(0, 200);
            c.size(call % 6, call % 401);
            c.back(0, call % 2);
        }
    }
}
