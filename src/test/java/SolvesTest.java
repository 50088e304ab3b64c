/** Promises 9 to 18: solves, their steps, marks and scores. */
public final class SolvesTest {
    private static final int NONE = -1, BAD = -2, STATE = -3, FULL = -4;
    private static final int NOTHING = Integer.MIN_VALUE;
    private static final int[] FAR = {Integer.MIN_VALUE, -1000, -1, 1000, Integer.MAX_VALUE};

    public static void main(String[] args) {
        solves();
        takes();
        takesEachOnce();
        takingMovesPlanAndBest();
        catchingUpComparesOnce();
        catchingUpFillsLate();
        stepsCatchUpFirst();
        stepsWithoutJobs();
        stepsMove();
        stepsSwap();
        stepsPassOverLockedJobs();
        stepsAreAcceptedByLate();
        stepsAreAcceptedByPlan();
        stepsCountLikeScores();
        marks();
        backWithoutNewChanges();
        backWithNewChanges();
        backTakesChangesAnew();
        marksStandApart();
        rooms();
        scoresHard();
        scoresSoft();
        scoresBy();
        sames();
        tolds();
        wrongNumbers();
        Check.end("SolvesTest");
    }

    private static void solves() {
        LiveChanges c = new LiveChanges();
        c.come(10, 10, 1);
        Check.due("late 0", c.solve(1, 0), BAD);
        Check.due("late 9", c.solve(1, 9), BAD);
        for (int far : FAR) {
            Check.due("late far", c.solve(1, far), BAD);
        }
        Check.due("solves", c.fact(3), 0);
        Check.due("late 1, least seed", c.solve(Integer.MIN_VALUE, 1), 0);
        Check.due("late 8, most seed", c.solve(Integer.MAX_VALUE, 8), 1);
        Check.due("x", c.told(0, 4), Integer.MIN_VALUE);
        Check.due("x", c.told(1, 4), Integer.MAX_VALUE);
        Check.due("the third", c.solve(0, 4), 2);
        Check.due("a fourth", c.solve(0, 4), FULL);
        Check.due("a fourth, badly", c.solve(0, 0), BAD);
        Check.due("solves", c.fact(3), 3);
        for (int s = 0; s < 3; s++) {
            for (int what = 0; what <= 6; what++) {
                if (what != 4) {
                    Check.due("told " + what, c.told(s, what), 0);
                }
            }
            Check.due("knows no job", c.room(s, false, 0), STATE);
            Scene.dueScore(c, s, false, 0, 0);
            Scene.dueScore(c, s, true, 0, 0);
        }
        Check.due("a solve is no change", c.fact(2), 1);
    }

    private static void takes() {
        LiveChanges c = new LiveChanges();
        for (int j = 0; j < 5; j++) {
            c.come(10, 10, 1);
        }
        c.solve(1, 1);
        Check.due("take 0", c.take(0, 0), 0);
        Check.due("take 2", c.take(0, 2), 2);
        Check.due("taken", c.told(0, 1), 2);
        Scene.dueRooms(c, 0, false, NONE, NONE, STATE, STATE, STATE);
        Scene.dueScore(c, 0, false, 0, 142);
        Check.due("take 1: stays", c.take(0, 1), 0);
        Check.due("taken", c.told(0, 1), 2);
        Check.due("take 2: stays", c.take(0, 2), 0);
        Check.due("take -1", c.take(0, -1), BAD);
        Check.due("take 6", c.take(0, 6), BAD);
        Check.due("taken", c.told(0, 1), 2);
        Check.due("take all", c.take(0, 5), 3);
        Check.due("taken", c.told(0, 1), 5);
        Check.due("steps", c.told(0, 0), 0);
        Check.due("x", c.told(0, 4), 1);
        for (int far : FAR) {
            Check.due("take far", c.take(far, 0), BAD);
            Check.due("take far", c.take(0, far), BAD);
        }
        Check.due("no such solve", c.take(1, 0), BAD);
    }

    private static void takesEachOnce() {
        LiveChanges c = new LiveChanges();
        c.come(10, 10, 1);
        c.solve(Scene.seedFor(Scene.moves(1, 0, 1)), 1);
        c.step(0, 1);
        Scene.dueRooms(c, 0, false, 1);
        c.take(0, 1);
        c.step(0, 0);
        Scene.dueRooms(c, 0, false, 1);
        c.turn(0, 20, 3, 3);
        Check.due("only the turn", c.take(0, 2), 1);
        Scene.dueRooms(c, 0, false, 1);
        Scene.dueScore(c, 0, false, 0, 6);
        c.size(1, 5);
        c.step(0, 0);
        Scene.dueScore(c, 0, false, 15, 6);
    }

    private static void takingMovesPlanAndBest() {
        LiveChanges c = new LiveChanges();
        c.come(10, 1, 0);
        c.come(10, 1, 0);
        c.solve(1, 1);
        c.lock(0, 4);
        c.take(0, 3);
        Scene.dueRooms(c, 0, false, 4, NONE);
        Scene.dueRooms(c, 0, true, 4, NONE);
        Scene.dueScore(c, 0, true, 0, 12);
        c.lock(0, 2);
        c.lock(1, 5);
        c.take(0, 5);
        Scene.dueRooms(c, 0, false, 2, 5);
        Scene.dueRooms(c, 0, true, 2, 5);
        c.free(1);
        c.take(0, 6);
        Scene.dueRooms(c, 0, false, 2, 5);
        Scene.dueRooms(c, 0, true, 2, 5);
        c.lock(0, NONE);
        c.take(0, 7);
        Scene.dueRooms(c, 0, false, NONE, 5);
        Scene.dueRooms(c, 0, true, NONE, 5);
        Scene.dueScore(c, 0, true, 0, 13);
        c.go(1);
        Check.due("by its own facts it is there", c.room(0, true, 1), 5);
        c.take(0, 8);
        Scene.dueRooms(c, 0, false, NONE, STATE);
        Scene.dueRooms(c, 0, true, NONE, STATE);
        Scene.dueScore(c, 0, false, 0, 8);
    }

    /** A job without weight in room 2 by BEST and in room 4 by the PLAN, which are alike in score. */
    private static LiveChanges planBesideBest() {
        LiveChanges c = new LiveChanges();
        c.come(50, 0, 0);
        c.solve(Scene.seedFor(Scene.moves(1, 0, 2), Scene.moves(1, 0, 4)), 1);
        Check.due("both become the plan", c.step(0, 2), 2);
        Scene.dueRooms(c, 0, false, 4);
        Scene.dueRooms(c, 0, true, 2);
        Check.due("best became the plan", c.told(0, 3), 1);
        return c;
    }

    private static void catchingUpComparesOnce() {
        LiveChanges c = planBesideBest();
        c.size(2, 0);
        c.size(2, 50);
        Check.due("both at once", c.take(0, 3), 2);
        Scene.dueRooms(c, 0, true, 2);
        Check.due("best became the plan", c.told(0, 3), 1);
        c = planBesideBest();
        c.size(2, 0);
        c.size(2, 50);
        c.take(0, 2);
        Scene.dueRooms(c, 0, true, 4);
        Scene.dueScore(c, 0, true, 0, 0);
        Check.due("best became the plan", c.told(0, 3), 2);
        c.take(0, 3);
        Scene.dueRooms(c, 0, true, 4);
        Check.due("best became the plan", c.told(0, 3), 2);
        c = planBesideBest();
        c.size(4, 49);
        c.take(0, 2);
        Scene.dueRooms(c, 0, true, 2);
        Scene.dueScore(c, 0, false, 1, 0);
        Scene.dueScore(c, 0, true, 0, 0);
        Check.due("no tried plan by taking", c.told(0, 2), 2);
    }

    private static void catchingUpFillsLate() {
        LiveChanges c = new LiveChanges();
        c.solve(3, 8);
        c.come(30, 2, 0);
        c.size(5, 10);
        c.lock(0, 5);
        c.take(0, 3);
        for (int i = 0; i < 8; i++) {
            Check.due("late hard", c.told(0, 5), 20);
            Check.due("late soft", c.told(0, 6), 10);
            c.step(0, 1);
        }
        c.turn(0, 30, 1, 0);
        Check.due("late waits for the taking", c.told(0, 6), 10);
        c.take(0, 3);
        Check.due("nothing taken", c.told(0, 6), 10);
        c.take(0, 4);
        Check.due("late anew", c.told(0, 6), 5);
    }

    private static void stepsCatchUpFirst() {
        LiveChanges c = new LiveChanges();
        c.come(10, 1, 3);
        c.solve(Scene.seedFor(Scene.moves(1, 0, 3)), 2);
        Check.due("step 0", c.step(0, 0), 0);
        Check.due("taken", c.told(0, 1), 1);
        Check.due("steps", c.told(0, 0), 0);
        Check.due("late", c.told(0, 6), 8);
        c.size(0, 7);
        Check.due("step 1", c.step(0, 1), 1);
        Check.due("taken", c.told(0, 1), 2);
        Check.due("steps", c.told(0, 0), 1);
        Scene.dueRooms(c, 0, true, 3);
        Check.due("step 201", c.step(0, 201), BAD);
        Check.due("step -1", c.step(0, -1), BAD);
        c.size(0, 8);
        Check.due("step 201", c.step(0, 201), BAD);
        Check.due("it took nothing", c.told(0, 1), 2);
        Check.due("steps", c.told(0, 0), 1);
        Check.due("step 200", c.step(0, 200) >= 0);
        Check.due("steps", c.told(0, 0), 201);
        for (int far : FAR) {
            Check.due("step far", c.step(far, 1), BAD);
            Check.due("step far", c.step(0, far), BAD);
        }
        Check.due("no such solve", c.step(1, 1), BAD);
    }

    private static void stepsWithoutJobs() {
        LiveChanges c = new LiveChanges();
        c.solve(77, 3);
        int x = 77;
        for (int i = 0; i < 20; i++) {
            Check.due("nothing is tried", c.step(0, 1), 0);
            x = Scene.next(x);
            Check.due("x", c.told(0, 4), x);
            Check.due("steps", c.told(0, 0), i + 1);
        }
        Check.due("became the plan", c.told(0, 2), 0);
        Check.due("became best", c.told(0, 3), 0);
    }

    private static void stepsMove() {
        for (int room = 0; room <= 6; room++) {
            LiveChanges c = new LiveChanges();
            c.come(10, 0, 3);
            c.come(10, 0, 3);
            c.come(10, 0, 3);
            c.solve(Scene.seedFor(Scene.moves(3, 1, room)), 1);
            Check.due("one step", c.step(0, 1), 1);
            Scene.dueRooms(c, 0, false, NONE, room == 6 ? NONE : room, NONE);
            Check.due("a plan like best leaves it", c.told(0, 3), room == 6 ? 0 : 1);
        }
        LiveChanges c = new LiveChanges();
        c.come(10, 5, 0);
        c.solve(Scene.seedFor(Scene.moves(1, 0, 0), Scene.moves(1, 0, 1), Scene.moves(1, 0, 6)), 1);
        Check.due("the first alone is as good", c.step(0, 3), 1);
        Scene.dueRooms(c, 0, false, 0);
        Check.due("steps", c.told(0, 0), 3);
    }

    private static void stepsSwap() {
        LiveChanges c = new LiveChanges();
        c.come(10, 1, 4);
        c.come(10, 1, 2);
        c.lock(0, 2);
        c.lock(1, 4);
        c.solve(Scene.seedFor(Scene.swaps(2, 1, 0)), 1);
        c.step(0, 0);
        Scene.dueScore(c, 0, false, 0, 4);
        c.free(0);
        c.free(1);
        Check.due("swap", c.step(0, 1), 1);
        Scene.dueRooms(c, 0, false, 4, 2);
        Scene.dueRooms(c, 0, true, 4, 2);
        Scene.dueScore(c, 0, true, 0, 0);
        c.turn(0, 10, 1, 2);
        c.turn(1, 10, 1, 4);
        c.solve(Scene.seedFor(Scene.swaps(2, 0, 0), Scene.swaps(2, 1, 1)), 1);
        Check.due("each with itself is a plan tried", c.step(1, 2), 2);
        Scene.dueRooms(c, 1, false, 2, 4);
        Check.due("best stays", c.told(1, 3), 0);
        Check.due("swap with none", swapWithNone(), 1);
    }

    private static int swapWithNone() {
        LiveChanges c = new LiveChanges();
        c.come(10, 9, 3);
        c.come(10, 1, 3);
        c.lock(1, 3);
        c.solve(Scene.seedFor(Scene.swaps(2, 0, 1)), 1);
        c.take(0, 3);
        c.free(1);
        int became = c.step(0, 1);
        Scene.dueRooms(c, 0, false, 3, NONE);
        Scene.dueScore(c, 0, true, 0, 8);
        return became;
    }

    /** Of four jobs one is gone and one is locked: the second that may move is job 3. */
    private static void stepsPassOverLockedJobs() {
        LiveChanges c = new LiveChanges();
        for (int j = 0; j < 4; j++) {
            c.come(10, 1, 2);
        }
        c.go(0);
        c.lock(2, 5);
        c.solve(Scene.seedFor(Scene.moves(2, 1, 2)), 1);
        Check.due("one step", c.step(0, 1), 1);
        Scene.dueRooms(c, 0, false, STATE, NONE, 5, 2);
        c.lock(1, NONE);
        c.lock(3, NONE);
        Check.due("none may move", c.step(0, 50), 0);
        Scene.dueRooms(c, 0, false, STATE, NONE, 5, NONE);
        Scene.dueRooms(c, 0, true, STATE, NONE, 5, NONE);
        Check.due("steps", c.told(0, 0), 51);
        Scene.dueScore(c, 0, true, 0, 19);
    }

    private static void stepsAreAcceptedByLate() {
        LiveChanges c = new LiveChanges();
        c.come(10, 1, 0);
        int seed = Scene.seedFor(Scene.moves(1, 0, 0), Scene.moves(1, 0, 3), Scene.moves(1, 0, 5),
            Scene.moves(1, 0, 3));
        c.solve(seed, 2);
        c.solve(seed, 1);
        Check.due("better", c.step(0, 1), 1);
        Check.due("late at place 1", c.told(0, 6), 8);
        Check.due("worse than the plan, not than late", c.step(0, 1), 1);
        Scene.dueRooms(c, 0, false, 3);
        Scene.dueRooms(c, 0, true, 0);
        Check.due("late at place 0", c.told(0, 6), 0);
        Check.due("worse than both", c.step(0, 1), 0);
        Scene.dueRooms(c, 0, false, 3);
        Check.due("late at place 1", c.told(0, 6), 3);
        Check.due("like the plan", c.step(0, 1), 1);
        Check.due("late at place 0, of the plan that stayed", c.told(0, 6), 3);
        Check.due("best became the plan once", c.told(0, 3), 1);
        Check.due("late of one: worse ones are left", c.step(1, 3), 1);
        Scene.dueRooms(c, 1, false, 0);
    }

    /** LATE is better than both the PLAN and the tried one: then the PLAN alone counts. */
    private static void stepsAreAcceptedByPlan() {
        for (int room = 1; room <= 4; room++) {
            LiveChanges c = new LiveChanges();
            c.come(10, 1, 0);
            c.solve(Scene.seedFor(Scene.moves(1, 0, 0), Scene.moves(1, 0, 3),
                Scene.moves(1, 0, room)), 2);
            c.step(0, 2);
            Check.due("late", c.told(0, 6), 0);
            Check.due("to room " + room, c.step(0, 1), room <= 3 ? 1 : 0);
            Scene.dueRooms(c, 0, false, Math.min(room, 3));
            Scene.dueRooms(c, 0, true, 0);
        }
    }

    /** A tried plan that is like LATE, though worse than the PLAN, becomes the PLAN. */
    private static void stepsCountLikeScores() {
        LiveChanges c = new LiveChanges();
        c.come(10, 1, 0);
        c.solve(Scene.seedFor(Scene.moves(1, 0, 0), Scene.moves(1, 0, 6)), 2);
        Check.due("like late", c.step(0, 2), 2);
        Scene.dueRooms(c, 0, false, NONE);
        Scene.dueRooms(c, 0, true, 0);
        LiveChanges d = new LiveChanges();
        d.come(10, 50, 5);
        d.size(5, 9);
        d.solve(Scene.seedFor(Scene.moves(1, 0, 5)), 1);
        Check.due("hard goes ahead of soft", d.step(0, 1), 0);
        Scene.dueRooms(d, 0, false, NONE);
        d.size(5, 10);
        d.solve(Scene.seedFor(Scene.moves(1, 0, 5)), 1);
        Check.due("as large as its size", d.step(1, 1), 1);
    }

    private static void marks() {
        LiveChanges c = new LiveChanges();
        c.solve(1, 1);
        Check.due("no mark", c.back(0, 0), STATE);
        Check.due("no mark", c.back(0, 1), STATE);
        Check.due("mark", c.mark(0, 0), 0);
        Check.due("the other is none", c.back(0, 1), STATE);
        Check.due("back", c.back(0, 0), 0);
        c.come(10, 1, 1);
        c.size(1, 1);
        c.take(0, 1);
        Check.due("mark", c.mark(0, 1), 1);
        c.take(0, 2);
        Check.due("mark anew", c.mark(0, 0), 2);
        Check.due("back", c.back(0, 1), 1);
        Check.due("taken", c.told(0, 1), 2);
        Check.due("back", c.back(0, 0), 2);
        for (int far : FAR) {
            Check.due("mark far", c.mark(far, 0), BAD);
            Check.due("mark far", c.mark(0, far), BAD);
            Check.due("back far", c.back(far, 0), BAD);
            Check.due("back far", c.back(0, far), BAD);
        }
        Check.due("mark 2", c.mark(0, 2), BAD);
        Check.due("back 2", c.back(0, 2), BAD);
        Check.due("no such solve", c.mark(1, 0), BAD);
        Check.due("no such solve", c.back(1, 0), BAD);
        c.solve(1, 1);
        Check.due("another's mark", c.back(1, 0), STATE);
    }

    private static void backWithoutNewChanges() {
        LiveChanges c = new LiveChanges();
        c.come(10, 1, 0);
        int seed = Scene.seedFor(Scene.moves(1, 0, 4), Scene.moves(1, 0, 1), Scene.moves(1, 0, 0));
        c.solve(seed, 3);
        c.step(0, 1);
        c.mark(0, 0);
        c.step(0, 2);
        Scene.dueRooms(c, 0, true, 0);
        Check.due("back", c.back(0, 0), 1);
        Scene.dueRooms(c, 0, false, 4);
        Scene.dueRooms(c, 0, true, 4);
        Scene.dueScore(c, 0, false, 0, 4);
        Scene.dueScore(c, 0, true, 0, 4);
        Check.due("T stays", c.told(0, 0), 3);
        Check.due("x stays", c.told(0, 4), Scene.next(Scene.next(Scene.next(seed))));
        Check.due("counts stay", c.told(0, 2), 3);
        Check.due("counts stay", c.told(0, 3), 3);
        Check.due("late at place 0 as then", c.told(0, 6), 4);
        c.step(0, 1);
        Check.due("late at place 1 as then", c.told(0, 6), 8);
    }

    private static void backWithNewChanges() {
        LiveChanges c = new LiveChanges();
        c.come(50, 0, 0);
        c.solve(Scene.seedFor(Scene.moves(1, 0, 2), Scene.moves(1, 0, 4)), 4);
        c.step(0, 2);
        Scene.dueRooms(c, 0, true, 2);
        c.mark(0, 1);
        c.size(2, 0);
        c.take(0, 2);
        Scene.dueRooms(c, 0, true, 4);
        Check.due("became best", c.told(0, 3), 2);
        Check.due("back", c.back(0, 1), 1);
        Check.due("taken as it went back", c.told(0, 1), 2);
        Scene.dueRooms(c, 0, true, 4);
        Check.due("became best once more", c.told(0, 3), 3);
        c.size(2, 400);
        Check.due("back", c.back(0, 1), 1);
        Check.due("not what is new", c.told(0, 1), 2);
        Check.due("late is of the plan", c.told(0, 6), 0);
    }

    private static void backTakesChangesAnew() {
        LiveChanges c = new LiveChanges();
        c.come(60, 2, 0);
        c.come(60, 2, 0);
        c.lock(0, 1);
        c.solve(1, 2);
        c.take(0, 3);
        c.mark(0, 0);
        c.lock(1, 1);
        c.apart(0, 1, true);
        c.come(5, 5, 5);
        c.turn(0, 70, 3, 0);
        c.size(1, 20);
        c.step(0, 0);
        Scene.dueScore(c, 0, false, 120, 41);
        Check.due("back", c.back(0, 0), 3);
        Scene.dueRooms(c, 0, false, 1, 1, NONE);
        Scene.dueScore(c, 0, false, 120, 41);
        Check.due("late", c.told(0, 5), 120);
        Check.due("late", c.told(0, 6), 41);
        c.go(0);
        c.step(0, 0);
        Check.due("back", c.back(0, 0), 3);
        Scene.dueRooms(c, 0, true, STATE, 1, NONE);
        Scene.dueScore(c, 0, true, 40, 38);
    }

    private static void marksStandApart() {
        LiveChanges c = new LiveChanges();
        c.come(10, 1, 0);
        c.solve(Scene.seedFor(Scene.moves(1, 0, 3), Scene.moves(1, 0, 2), Scene.moves(1, 0, 1)), 1);
        c.step(0, 1);
        c.mark(0, 0);
        c.step(0, 1);
        c.mark(0, 1);
        c.step(0, 1);
        Scene.dueRooms(c, 0, false, 1);
        c.back(0, 0);
        Scene.dueRooms(c, 0, false, 3);
        c.back(0, 1);
        Scene.dueRooms(c, 0, true, 2);
        c.back(0, 0);
        Scene.dueRooms(c, 0, true, 3);
        c.back(0, 1);
        c.mark(0, 0);
        c.back(0, 0);
        Scene.dueRooms(c, 0, true, 2);
        Check.due("a mark stays after going back", c.back(0, 0), 1);
    }

    private static void rooms() {
        LiveChanges c = new LiveChanges();
        c.come(10, 1, 0);
        c.solve(1, 1);
        Check.due("not there yet", c.room(0, false, 0), STATE);
        Check.due("never came", c.room(0, false, 15), STATE);
        Check.due("job 16", c.room(0, false, 16), BAD);
        Check.due("no such solve", c.room(1, false, 0), BAD);
        for (int far : FAR) {
            Check.due("room far", c.room(far, false, 0), BAD);
            Check.due("room far", c.room(0, true, far), BAD);
        }
        c.step(0, 0);
        Check.due("in none", c.room(0, false, 0), NONE);
        c.go(0);
        Check.due("gone, it does not know", c.room(0, true, 0), NONE);
        c.step(0, 0);
        Check.due("gone", c.room(0, true, 0), STATE);
    }

    private static void scoresHard() {
        LiveChanges c = new LiveChanges();
        for (int j = 0; j < 16; j++) {
            c.come(100, 0, 0);
            c.lock(j, 2);
        }
        c.solve(1, 1);
        c.take(0, 32);
        Scene.dueScore(c, 0, false, 1500, 0);
        for (int a = 0; a < 8; a++) {
            for (int b = a + 1; b < 8; b++) {
                c.apart(b, a, true);
            }
        }
        c.step(0, 0);
        Scene.dueScore(c, 0, false, 1780, 0);
        c.apart(0, 7, false);
        c.size(2, 400);
        c.size(3, 0);
        c.step(0, 0);
        Scene.dueScore(c, 0, true, 1470, 0);
        c.lock(0, 3);
        c.step(0, 0);
        Scene.dueScore(c, 0, true, 100 + 1100 + 210, 0);
        c.lock(1, 4);
        c.step(0, 0);
        Scene.dueScore(c, 0, true, 100 + 1000 + 150, 0);
        c.lock(1, NONE);
        c.lock(0, NONE);
        c.step(0, 0);
        Scene.dueScore(c, 0, true, 1000 + 150, 2);
    }

    private static void scoresSoft() {
        LiveChanges c = new LiveChanges();
        c.come(1, 50, 0);
        c.come(1, 3, 5);
        c.come(1, 0, 5);
        c.solve(1, 1);
        c.step(0, 0);
        Scene.dueScore(c, 0, false, 0, 351 + 22 + 1);
        c.lock(0, 5);
        c.lock(1, 1);
        c.lock(2, 0);
        c.step(0, 0);
        Scene.dueScore(c, 0, false, 0, 250 + 12);
        Check.due("no such solve", c.score(1, true, true), BAD);
        for (int far : FAR) {
            Check.due("score far", c.score(far, false, false), BAD);
        }
    }

    private static void scoresBy() {
        LiveChanges c = new LiveChanges();
        c.solve(1, 1);
        c.come(60, 2, 0);
        c.come(70, 3, 0);
        c.lock(0, 1);
        c.lock(1, 1);
        c.apart(0, 1, true);
        c.step(0, 0);
        Scene.dueScore(c, 0, false, 40, 5);
        c.size(1, 10);
        c.come(9, 4, 4);
        c.lock(0, 5);
        c.go(1);
        c.turn(0, 60, 7, 1);
        int[] hard = {0, 0, 30, 30, 30, 40, 130, 130, 130, 50, 50};
        int[] soft = {0, 2, 5, 5, 5, 5, 5, 34, 34, 31, 29};
        for (int n = 10; n >= 0; n--) {
            Check.due("hard by " + n, c.scoreBy(0, false, true, n), hard[n]);
            Check.due("soft by " + n, c.scoreBy(0, true, false, n), soft[n]);
        }
        for (int n = 0; n <= 10; n += 3) {
            Check.due("hard by " + n, c.scoreBy(0, true, true, n), hard[n]);
            Check.due("soft by " + n, c.scoreBy(0, false, false, n), soft[n]);
        }
        Scene.dueScore(c, 0, false, 40, 5);
        Check.due("it took nothing", c.told(0, 1), 5);
        c.step(0, 0);
        Check.due("gone by its own: in none", c.scoreBy(0, false, false, 2), 10 + 22);
        Check.due("n -1", c.scoreBy(0, false, true, -1), BAD);
        Check.due("n 11", c.scoreBy(0, false, true, 11), BAD);
        Check.due("no such solve", c.scoreBy(1, false, true, 0), BAD);
        for (int far : FAR) {
            Check.due("scoreBy far", c.scoreBy(far, false, true, 0), BAD);
            Check.due("scoreBy far", c.scoreBy(0, false, true, far), BAD);
        }
        LiveChanges d = planBesideBest();
        d.size(2, 0);
        Check.due("the plan", d.scoreBy(0, false, true, 2), 0);
        Check.due("best", d.scoreBy(0, true, true, 2), 50);
    }

    private static void sames() {
        LiveChanges c = new LiveChanges();
        c.come(50, 0, 0);
        int seed = Scene.seedFor(Scene.moves(1, 0, 2), Scene.moves(1, 0, 4), Scene.moves(1, 0, 2));
        c.solve(seed, 1);
        c.solve(seed, 8);
        Check.due("both new", c.same(0, 1), 1);
        c.take(0, 1);
        Check.due("taken differs", c.same(0, 1), 0);
        c.take(1, 1);
        Check.due("taken alike", c.same(1, 0), 1);
        c.step(0, 1);
        Check.due("plans differ", c.same(0, 1), 0);
        c.step(1, 3);
        Check.due("T and x need not be alike", c.same(0, 1), 1);
        c.step(0, 1);
        Check.due("plans differ, best ones do not", c.same(0, 1), 0);
        c.solve(Scene.seedFor(Scene.moves(1, 0, 4)), 2);
        c.step(2, 1);
        Check.due("best ones differ, plans do not", c.same(0, 2), 0);
        Check.due("with itself", c.same(2, 2), 1);
        c.go(0);
        c.take(0, 2);
        c.take(2, 2);
        Check.due("left out of all", c.same(0, 2), 1);
        Check.due("no such solve", c.same(0, 3), BAD);
        for (int far : FAR) {
            Check.due("same far", c.same(far, 0), BAD);
            Check.due("same far", c.same(0, far), BAD);
        }
    }

    private static void tolds() {
        LiveChanges c = new LiveChanges();
        c.come(60, 2, 1);
        c.size(0, 10);
        c.lock(0, 0);
        c.solve(-5, 2);
        c.step(0, 3);
        Check.due("T", c.told(0, 0), 3);
        Check.due("taken", c.told(0, 1), 3);
        Check.due("became the plan", c.told(0, 2), 0);
        Check.due("became best", c.told(0, 3), 0);
        Check.due("x", c.told(0, 4), Scene.next(Scene.next(Scene.next(-5))));
        Check.due("late hard", c.told(0, 5), 50);
        Check.due("late soft", c.told(0, 6), 2);
        Check.due("what 7", c.told(0, 7), NOTHING);
        Check.due("what -1", c.told(0, -1), NOTHING);
        for (int far : FAR) {
            Check.due("told far", c.told(far, 0), NOTHING);
            Check.due("told far", c.told(0, far), NOTHING);
        }
        Check.due("no such solve", c.told(1, 0), NOTHING);
        Check.due("no such solve", c.told(3, 0), NOTHING);
    }

    /** Wrong calls leave a solve as it is. */
    private static void wrongNumbers() {
        LiveChanges c = new LiveChanges();
        c.come(10, 1, 1);
        c.solve(9, 2);
        c.solve(9, 2);
        c.step(0, 30);
        c.step(1, 30);
        c.size(0, 3);
        c.take(0, 3);
        c.step(0, 201);
        c.mark(0, 2);
        c.back(0, 0);
        c.scoreBy(0, true, true, 2);
        Check.due("same", c.same(0, 1), 1);
        for (int what = 0; what <= 6; what++) {
            Check.due("told " + what, c.told(0, what), c.told(1, what));
        }
        Check.due("no mark came", c.back(0, 0), STATE);
    }
}
