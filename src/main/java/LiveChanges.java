import java.util.Arrays;

/**
 * A plan that is made better step by step while its facts change.
 *
 * <p>Changes stand in one log that only grows; facts are always those of its first n changes. So a
 * solve needs to remember only how many it has taken, and can be brought to any earlier facts by
 * reading the log anew.
 */
public final class LiveChanges {
    public static final int NONE = -1, BAD = -2, STATE = -3, FULL = -4;

    private static final int JOBS = 16;
    private static final int ROOMS = 6;
    private static final int CHANGES = 120;
    private static final int SOLVES = 3;
    private static final int MARKS = 2;

    private static final int MOST_LENGTH = 100;
    private static final int MOST_WEIGHT = 50;
    private static final int MOST_SIZE = 400;
    private static final int FIRST_SIZE = 100;
    private static final int MOST_LATE = 8;
    private static final int MOST_STEPS = 200;

    private static final int COMES = 0;
    private static final int GOES = 1;
    private static final int TURNS = 2;
    private static final int RESIZED = 3;
    private static final int PARTED = 4;
    private static final int UNPARTED = 5;
    private static final int LOCKED = 6;
    private static final int FREED = 7;

    // A lock may be to NONE, so that no lock at all needs a number of its own.
    private static final int UNLOCKED = -2;

    // What told answers for BAD: -2 may be an x. Written out, as the library's name for it is none
    // of those that the rules let in.
    private static final int LEAST_INT = 1 << 31;

    private static final int APART_COST = 10;
    private static final int NOWHERE_COST = 7;

    private final Log log;
    private final Facts latest;
    // Only scoreBy uses it: kept, so that no call makes facts anew.
    private final Facts others;
    private final Solve[] solves;
    private int solveCount;

    public LiveChanges() {
        log = new Log();
        latest = new Facts();
        others = new Facts();
        solves = new Solve[SOLVES];
        solveCount = 0;
    }

    public int come(int length, int weight, int wish) {
        if (!areTraits(length, weight, wish)) {
            return BAD;
        }
        if (latest.came >= JOBS) {
            return STATE;
        }
        return enter(COMES, latest.came, length, weight, wish);
    }

    public int go(int job) {
        if (!latest.has(job)) {
            return BAD;
        }
        return enter(GOES, job, 0, 0, 0);
    }

    public int turn(int job, int length, int weight, int wish) {
        if (!latest.has(job) || !areTraits(length, weight, wish)) {
            return BAD;
        }
        return enter(TURNS, job, length, weight, wish);
    }

    public int size(int room, int size) {
        if (!isRoom(room) || !isWithin(size, 0, MOST_SIZE)) {
            return BAD;
        }
        return enter(RESIZED, room, size, 0, 0);
    }

    public int apart(int a, int b, boolean on) {
        if (!latest.has(a) || !latest.has(b) || a == b) {
            return BAD;
        }
        if (latest.areApart(a, b) == on) {
            return STATE;
        }
        return enter(on ? PARTED : UNPARTED, a, b, 0, 0);
    }

    public int lock(int job, int room) {
        if (!latest.has(job) || (room != NONE && !isRoom(room))) {
            return BAD;
        }
        return enter(LOCKED, job, room, 0, 0);
    }

    public int free(int job) {
        if (!latest.has(job)) {
            return BAD;
        }
        if (latest.locks[job] == UNLOCKED) {
            return STATE;
        }
        return enter(FREED, job, 0, 0, 0);
    }

    public int solve(int seed, int late) {
        if (!isWithin(late, 1, MOST_LATE)) {
            return BAD;
        }
        if (solveCount >= SOLVES) {
            return FULL;
        }
        solves[solveCount] = new Solve(seed, late);
        solveCount++;
        return solveCount - 1;
    }

    public int take(int solve, int n) {
        Solve s = solveOf(solve);
        if (s == null || !isWithin(n, 0, log.count)) {
            return BAD;
        }
        return s.catchUp(log, n);
    }

    public int step(int solve, int n) {
        Solve s = solveOf(solve);
        if (s == null || !isWithin(n, 0, MOST_STEPS)) {
            return BAD;
        }
        s.catchUp(log, log.count);
        return s.makeSteps(n);
    }

    public int mark(int solve, int k) {
        Solve s = solveOf(solve);
        if (s == null || !isMark(k)) {
            return BAD;
        }
        if (s.marks[k] == null) {
            s.marks[k] = new Mark(s.late.length);
        }
        s.keepIn(s.marks[k]);
        return s.facts.known;
    }

    public int back(int solve, int k) {
        Solve s = solveOf(solve);
        if (s == null || !isMark(k)) {
            return BAD;
        }
        Mark mark = s.marks[k];
        if (mark == null) {
            return STATE;
        }
        s.goBackTo(mark, log);
        return mark.known;
    }

    public int room(int solve, boolean best, int job) {
        Solve s = solveOf(solve);
        if (s == null || !isWithin(job, 0, JOBS - 1)) {
            return BAD;
        }
        if (!s.facts.has(job)) {
            return STATE;
        }
        return s.rooms(best)[job];
    }

    public int score(int solve, boolean best, boolean hard) {
        Solve s = solveOf(solve);
        if (s == null) {
            return BAD;
        }
        return partOf(best ? s.bestScore : s.planScore, hard);
    }

    public int scoreBy(int solve, boolean best, boolean hard, int n) {
        Solve s = solveOf(solve);
        if (s == null || !isWithin(n, 0, log.count)) {
            return BAD;
        }
        others.become(log, n);
        return partOf(others.scoreOf(s.rooms(best)), hard);
    }

    public int same(int a, int b) {
        Solve one = solveOf(a);
        Solve other = solveOf(b);
        if (one == null || other == null) {
            return BAD;
        }
        return one.isLike(other) ? 1 : 0;
    }

    public int told(int solve, int what) {
        Solve s = solveOf(solve);
        if (s == null) {
            return LEAST_INT;
        }
        switch (what) {
            case 0:
                return s.steps;
            case 1:
                return s.facts.known;
            case 2:
                return s.becamePlan;
            case 3:
                return s.becameBest;
            case 4:
                return s.x;
            case 5:
                return partOf(s.late[s.latePlace()], true);
            case 6:
                return partOf(s.late[s.latePlace()], false);
            default:
                return LEAST_INT;
        }
    }

    public int fact(int what) {
        if (what < 100) {
            return countOf(what);
        }
        int group = what / 100;
        int number = what % 100;
        if (group == 1) {
            return isWithin(number, 0, latest.came - 1) ? (latest.has(number) ? 1 : 0) : BAD;
        }
        if (group == 6) {
            return isRoom(number) ? latest.sizes[number] : BAD;
        }
        return latest.has(number) ? traitOf(group, number) : BAD;
    }

    public int change(int i) {
        return isWithin(i, 1, log.count) ? log.kinds[i - 1] : BAD;
    }

    private int enter(int kind, int whom, int first, int second, int third) {
        if (log.count >= CHANGES) {
            return FULL;
        }
        log.add(kind, whom, first, second, third);
        latest.become(log, log.count);
        return log.count;
    }

    private Solve solveOf(int number) {
        return isWithin(number, 0, solveCount - 1) ? solves[number] : null;
    }

    private int countOf(int what) {
        switch (what) {
            case 0:
                return latest.countThere();
            case 1:
                return latest.came;
            case 2:
                return log.count;
            case 3:
                return solveCount;
            default:
                return BAD;
        }
    }

    private int traitOf(int group, int job) {
        switch (group) {
            case 2:
                return latest.lengths[job];
            case 3:
                return latest.weights[job];
            case 4:
                return latest.wishes[job];
            case 5:
                return latest.locks[job] == UNLOCKED ? STATE : latest.locks[job] + 1;
            default:
                return BAD;
        }
    }

    private static boolean isWithin(int number, int least, int most) {
        return number >= least && number <= most;
    }

    private static boolean isRoom(int room) {
        return isWithin(room, 0, ROOMS - 1);
    }

    private static boolean isMark(int k) {
        return isWithin(k, 0, MARKS - 1);
    }

    private static boolean areTraits(int length, int weight, int wish) {
        return isWithin(length, 1, MOST_LENGTH) && isWithin(weight, 0, MOST_WEIGHT) && isRoom(wish);
    }

    // HARD stands above SOFT in one long, so that of two scores the lesser long is the better one.
    private static long scoreFrom(int hard, int soft) {
        return ((long) hard << 32) + soft;
    }

    private static int partOf(long score, boolean hard) {
        return hard ? (int) (score >> 32) : (int) score;
    }

    private static int[] emptyPlan() {
        int[] rooms = new int[JOBS];
        Arrays.fill(rooms, NONE);
        return rooms;
    }

    /** All changes, in their order; change i stands at place i - 1. */
    private static final class Log {
        final int[] kinds = new int[CHANGES];
        // A job, or with RESIZED a room.
        final int[] whoms = new int[CHANGES];
        final int[] firsts = new int[CHANGES];
        final int[] seconds = new int[CHANGES];
        final int[] thirds = new int[CHANGES];
        int count = 0;

        void add(int kind, int whom, int first, int second, int third) {
            if (count >= CHANGES) {
                return;
            }
            kinds[count] = kind;
            whoms[count] = whom;
            firsts[count] = first;
            seconds[count] = second;
            thirds[count] = third;
            count++;
        }
    }

    /** What the first changes of the log make, as many as are known. */
    private static final class Facts {
        int known;
        int came;
        final boolean[] there = new boolean[JOBS];
        final int[] lengths = new int[JOBS];
        final int[] weights = new int[JOBS];
        final int[] wishes = new int[JOBS];
        final int[] locks = new int[JOBS];
        // Of each job a set of jobs, a bit each: pairs are then counted by bits, not one by one.
        final int[] aparts = new int[JOBS];
        final int[] sizes = new int[ROOMS];
        // Used by scoreOf alone: kept, so that a step makes nothing anew.
        private final int[] loads = new int[ROOMS];
        private final int[] guests = new int[ROOMS];

        Facts() {
            clear();
        }

        private void clear() {
            known = 0;
            came = 0;
            for (int job = 0; job < JOBS; job++) {
                there[job] = false;
                locks[job] = UNLOCKED;
                aparts[job] = 0;
            }
            Arrays.fill(sizes, FIRST_SIZE);
        }

        /** The log never changes what stands in it, so that only going back begins at nothing. */
        void become(Log log, int n) {
            if (n < known) {
                clear();
            }
            int end = Math.min(n, log.count);
            for (int i = known; i < end; i++) {
                learn(log, i);
            }
        }

        private void learn(Log log, int i) {
            if (log.kinds[i] == RESIZED) {
                sizes[log.whoms[i]] = log.firsts[i];
            } else {
                learnOfJob(log, i, log.whoms[i]);
            }
            known = i + 1;
        }

        private void learnOfJob(Log log, int i, int job) {
            switch (log.kinds[i]) {
                case COMES:
                    there[job] = true;
                    came = job + 1;
                    setTraits(log, i, job);
                    break;
                case GOES:
                    leave(job);
                    break;
                case TURNS:
                    setTraits(log, i, job);
                    break;
                case PARTED:
                    setApart(job, log.firsts[i], true);
                    break;
                case UNPARTED:
                    setApart(job, log.firsts[i], false);
                    break;
                case LOCKED:
                    locks[job] = log.firsts[i];
                    break;
                case FREED:
                    locks[job] = UNLOCKED;
                    break;
                default:
                    break;
            }
        }

        private void setTraits(Log log, int i, int job) {
            lengths[job] = log.firsts[i];
            weights[job] = log.seconds[i];
            wishes[job] = log.thirds[i];
        }

        private void leave(int job) {
            there[job] = false;
            locks[job] = UNLOCKED;
            aparts[job] = 0;
            for (int other = 0; other < JOBS; other++) {
                aparts[other] &= ~(1 << job);
            }
        }

        private void setApart(int a, int b, boolean on) {
            if (on) {
                aparts[a] |= 1 << b;
                aparts[b] |= 1 << a;
            } else {
                aparts[a] &= ~(1 << b);
                aparts[b] &= ~(1 << a);
            }
        }

        boolean areApart(int a, int b) {
            return (aparts[a] >> b & 1) == 1;
        }

        boolean has(int job) {
            return isWithin(job, 0, JOBS - 1) && there[job];
        }

        int countThere() {
            int count = 0;
            for (int job = 0; job < JOBS; job++) {
                if (there[job]) {
                    count++;
                }
            }
            return count;
        }

        /** Writes the jobs that a step may move into the row, by numbers: how many they are. */
        int listMovable(int[] row) {
            int count = 0;
            for (int job = 0; job < JOBS && count < row.length; job++) {
                if (there[job] && locks[job] == UNLOCKED) {
                    row[count] = job;
                    count++;
                }
            }
            return count;
        }

        long scoreOf(int[] rooms) {
            Arrays.fill(loads, 0);
            Arrays.fill(guests, 0);
            int hard = 0;
            int soft = 0;
            for (int job = 0; job < JOBS && job < rooms.length; job++) {
                if (!there[job]) {
                    continue;
                }
                int room = rooms[job];
                if (isRoom(room)) {
                    // Only with the guests that came in before, so that each pair counts once.
                    hard += APART_COST * Integer.bitCount(aparts[job] & guests[room]);
                    guests[room] |= 1 << job;
                    loads[room] += lengths[job];
                    soft += weights[job] * Math.abs(room - wishes[job]);
                } else {
                    soft += NOWHERE_COST * weights[job] + 1;
                }
            }
            for (int room = 0; room < ROOMS; room++) {
                hard += Math.max(0, loads[room] - sizes[room]);
            }
            return scoreFrom(hard, soft);
        }
    }

    /** What a solve was as it was marked; the facts come again from the log. */
    private static final class Mark {
        int known = 0;
        final int[] plan = new int[JOBS];
        final int[] best = new int[JOBS];
        final long[] late;

        Mark(int lateLength) {
            late = new long[lateLength];
        }
    }

    private static final class Solve {
        final Facts facts = new Facts();
        // Jobs that are not there by the facts are in NONE: scoreBy rests on that.
        final int[] plan = emptyPlan();
        final int[] best = emptyPlan();
        final long[] late;
        // Null where none was made yet; one that is made again uses its rows again.
        final Mark[] marks = new Mark[MARKS];
        private final int[] movable = new int[JOBS];
        long planScore = 0;
        long bestScore = 0;
        int steps = 0;
        int x;
        int becamePlan = 0;
        int becameBest = 0;

        /** The late length is at least 1: solve has looked at it. */
        Solve(int seed, int lateLength) {
            x = seed;
            late = new long[lateLength];
        }

        int[] rooms(boolean ofBest) {
            return ofBest ? best : plan;
        }

        /** Never below 0, even if the steps should wrap around long after the last promised call. */
        int latePlace() {
            return Math.floorMod(steps, late.length);
        }

        int catchUp(Log log, int n) {
            int first = facts.known;
            int end = Math.min(n, log.count);
            if (end <= first) {
                return 0;
            }
            facts.become(log, end);
            for (int i = first; i < end; i++) {
                followChange(log, i);
            }
            scoreAnew();
            keepIfBest();
            Arrays.fill(late, planScore);
            return end - first;
        }

        private void followChange(Log log, int i) {
            int kind = log.kinds[i];
            if (kind == COMES || kind == GOES) {
                putInBoth(log.whoms[i], NONE);
            } else if (kind == LOCKED) {
                putInBoth(log.whoms[i], log.firsts[i]);
            }
        }

        private void putInBoth(int job, int room) {
            plan[job] = room;
            best[job] = room;
        }

        private void scoreAnew() {
            planScore = facts.scoreOf(plan);
            bestScore = facts.scoreOf(best);
        }

        private void keepIfBest() {
            if (planScore < bestScore) {
                System.arraycopy(plan, 0, best, 0, JOBS);
                bestScore = planScore;
                becameBest++;
            }
        }

        int makeSteps(int n) {
            int before = becamePlan;
            int m = facts.listMovable(movable);
            for (int i = 0; i < n; i++) {
                makeStep(m);
            }
            return becamePlan - before;
        }

        private void makeStep(int m) {
            x = x * 1103515245 + 12345;
            int place = latePlace();
            if (m > 0) {
                tryPlan(m, late[place]);
            }
            late[place] = planScore;
            keepIfBest();
            steps++;
        }

        private void tryPlan(int m, long lateScore) {
            boolean swap = (x >>> 8) % 4 == 3;
            int j = movable[(x >>> 16) % m];
            int k = swap ? movable[(x >>> 20) % m] : j;
            int roomOfJ = plan[j];
            int roomOfK = plan[k];
            if (swap) {
                plan[j] = roomOfK;
                plan[k] = roomOfJ;
            } else {
                int room = (x >>> 24) % (ROOMS + 1);
                plan[j] = isRoom(room) ? room : NONE;
            }
            long tried = facts.scoreOf(plan);
            if (planScore < tried && lateScore < tried) {
                plan[j] = roomOfJ;
                plan[k] = roomOfK;
            } else {
                planScore = tried;
                becamePlan++;
            }
        }

        void keepIn(Mark mark) {
            mark.known = facts.known;
            System.arraycopy(plan, 0, mark.plan, 0, JOBS);
            System.arraycopy(best, 0, mark.best, 0, JOBS);
            System.arraycopy(late, 0, mark.late, 0, late.length);
        }

        void goBackTo(Mark mark, Log log) {
            int had = facts.known;
            facts.become(log, mark.known);
            System.arraycopy(mark.plan, 0, plan, 0, JOBS);
            System.arraycopy(mark.best, 0, best, 0, JOBS);
            System.arraycopy(mark.late, 0, late, 0, late.length);
            scoreAnew();
            catchUp(log, had);
        }

        boolean isLike(Solve other) {
            if (facts.known != other.facts.known) {
                return false;
            }
            for (int job = 0; job < JOBS; job++) {
                if (plan[job] != other.plan[job] || best[job] != other.best[job]) {
                    return false;
                }
            }
            return true;
        }
    }
}
