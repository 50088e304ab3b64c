import java.util.ArrayList;
import java.util.Arrays;
import java.util.HashSet;
import java.util.List;
import java.util.Map;
import java.util.Set;
import java.util.TreeMap;

/**
 * The document told once more, as plainly as can be: facts are made from nothing at each look, plans
 * are maps, scores are counted pair by pair. Slow, and held in no way like LiveChanges.
 */
final class Model {
    static final int NONE = -1, BAD = -2, STATE = -3, FULL = -4;

    private record Change(int kind, int a, int b, int c, int d) {
    }

    private static final class Job {
        int length;
        int weight;
        int wish;
        Integer lock;
    }

    private static final class World {
        final TreeMap<Integer, Job> jobs = new TreeMap<>();
        final int[] sizes = {100, 100, 100, 100, 100, 100};
        final Set<Set<Integer>> apart = new HashSet<>();
        int came = 0;
    }

    private static final class State {
        TreeMap<Integer, Integer> plan = new TreeMap<>();
        TreeMap<Integer, Integer> best = new TreeMap<>();
        List<int[]> late = new ArrayList<>();
        int taken = 0;

        State copy() {
            State s = new State();
            s.plan = new TreeMap<>(plan);
            s.best = new TreeMap<>(best);
            s.late = new ArrayList<>(late);
            s.taken = taken;
            return s;
        }
    }

    private static final class Solver {
        State now = new State();
        final State[] marks = new State[2];
        int t = 0;
        int x;
        int becamePlan = 0;
        int becameBest = 0;
    }

    private final List<Change> log = new ArrayList<>();
    private final List<Solver> solvers = new ArrayList<>();

    private World world(int n) {
        World w = new World();
        for (Change c : log.subList(0, n)) {
            tell(w, c);
        }
        return w;
    }

    private static void tell(World w, Change c) {
        switch (c.kind) {
            case 0 -> {
                w.jobs.put(w.came++, new Job());
                give(w.jobs.get(w.came - 1), c);
            }
            case 1 -> {
                w.jobs.remove(c.a);
                w.apart.removeIf(pair -> pair.contains(c.a));
            }
            case 2 -> give(w.jobs.get(c.a), c);
            case 3 -> w.sizes[c.a] = c.b;
            case 4 -> w.apart.add(Set.of(c.a, c.b));
            case 5 -> w.apart.remove(Set.of(c.a, c.b));
            case 6 -> w.jobs.get(c.a).lock = c.b;
            default -> w.jobs.get(c.a).lock = null;
        }
    }

    private static void give(Job job, Change c) {
        job.length = c.b;
        job.weight = c.c;
        job.wish = c.d;
    }

    private World latest() {
        return world(log.size());
    }

    private int enter(Change c) {
        if (log.size() == 120) {
            return FULL;
        }
        log.add(c);
        return log.size();
    }

    private static int[] rate(World w, Map<Integer, Integer> plan) {
        int hard = 0;
        int soft = 0;
        for (int r = 0; r < 6; r++) {
            int sum = 0;
            for (int j : w.jobs.keySet()) {
                sum += plan.getOrDefault(j, NONE) == r ? w.jobs.get(j).length : 0;
            }
            hard += sum > w.sizes[r] ? sum - w.sizes[r] : 0;
        }
        for (Set<Integer> pair : w.apart) {
            Integer[] two = pair.toArray(new Integer[0]);
            int r = plan.getOrDefault(two[0], NONE);
            hard += r != NONE && r == plan.getOrDefault(two[1], NONE) ? 10 : 0;
        }
        for (int j : w.jobs.keySet()) {
            int r = plan.getOrDefault(j, NONE);
            Job job = w.jobs.get(j);
            int far = r > job.wish ? r - job.wish : job.wish - r;
            soft += r == NONE ? 7 * job.weight + 1 : job.weight * far;
        }
        return new int[] {hard, soft};
    }

    private static boolean better(int[] a, int[] b) {
        return a[0] < b[0] || (a[0] == b[0] && a[1] < b[1]);
    }

    private static boolean wrongTraits(int length, int weight, int wish) {
        return length < 1 || length > 100 || weight < 0 || weight > 50 || wish < 0 || wish > 5;
    }

    int come(int length, int weight, int wish) {
        if (wrongTraits(length, weight, wish)) {
            return BAD;
        }
        return latest().came == 16 ? STATE : enter(new Change(0, -1, length, weight, wish));
    }

    int go(int job) {
        return latest().jobs.containsKey(job) ? enter(new Change(1, job, 0, 0, 0)) : BAD;
    }

    int turn(int job, int length, int weight, int wish) {
        if (!latest().jobs.containsKey(job) || wrongTraits(length, weight, wish)) {
            return BAD;
        }
        return enter(new Change(2, job, length, weight, wish));
    }

    int size(int room, int size) {
        boolean wrong = room < 0 || room > 5 || size < 0 || size > 400;
        return wrong ? BAD : enter(new Change(3, room, size, 0, 0));
    }

    int apart(int a, int b, boolean on) {
        World w = latest();
        if (a == b || !w.jobs.containsKey(a) || !w.jobs.containsKey(b)) {
            return BAD;
        }
        boolean is = w.apart.contains(Set.of(a, b));
        return is == on ? STATE : enter(new Change(on ? 4 : 5, a, b, 0, 0));
    }

    int lock(int job, int room) {
        boolean wrong = !latest().jobs.containsKey(job) || room < -1 || room > 5;
        return wrong ? BAD : enter(new Change(6, job, room, 0, 0));
    }

    int free(int job) {
        Job j = latest().jobs.get(job);
        if (j == null) {
            return BAD;
        }
        return j.lock == null ? STATE : enter(new Change(7, job, 0, 0, 0));
    }

    int solve(int seed, int late) {
        if (late < 1 || late > 8) {
            return BAD;
        }
        if (solvers.size() == 3) {
            return FULL;
        }
        Solver s = new Solver();
        s.x = seed;
        for (int i = 0; i < late; i++) {
            s.now.late.add(new int[] {0, 0});
        }
        solvers.add(s);
        return solvers.size() - 1;
    }

    private boolean wrongSolve(int solve) {
        return solve < 0 || solve >= solvers.size();
    }

    private int catchUp(Solver s, int n) {
        int took = 0;
        while (s.now.taken < n) {
            Change c = log.get(s.now.taken);
            int job = c.kind == 0 ? world(s.now.taken).came : c.a;
            for (TreeMap<Integer, Integer> plan : List.of(s.now.plan, s.now.best)) {
                if (c.kind == 0) {
                    plan.put(job, NONE);
                } else if (c.kind == 1) {
                    plan.remove(job);
                } else if (c.kind == 6) {
                    plan.put(job, c.b);
                }
            }
            s.now.taken++;
            took++;
        }
        if (took > 0) {
            World w = world(s.now.taken);
            keepBest(s, w);
            s.now.late.replaceAll(old -> rate(w, s.now.plan));
        }
        return took;
    }

    private static void keepBest(Solver s, World w) {
        if (better(rate(w, s.now.plan), rate(w, s.now.best))) {
            s.now.best = new TreeMap<>(s.now.plan);
            s.becameBest++;
        }
    }

    int take(int solve, int n) {
        return wrongSolve(solve) || n < 0 || n > log.size() ? BAD : catchUp(solvers.get(solve), n);
    }

    int step(int solve, int n) {
        if (wrongSolve(solve) || n < 0 || n > 200) {
            return BAD;
        }
        Solver s = solvers.get(solve);
        catchUp(s, log.size());
        int before = s.becamePlan;
        World w = world(s.now.taken);
        for (int i = 0; i < n; i++) {
            stepOnce(s, w);
        }
        return s.becamePlan - before;
    }

    private static void stepOnce(Solver s, World w) {
        s.x = s.x * 1103515245 + 12345;
        List<Integer> may = new ArrayList<>();
        w.jobs.forEach((number, job) -> {
            if (job.lock == null) {
                may.add(number);
            }
        });
        int place = s.t % s.now.late.size();
        if (!may.isEmpty()) {
            TreeMap<Integer, Integer> tried = new TreeMap<>(s.now.plan);
            int j = may.get((s.x >>> 16) % may.size());
            if ((s.x >>> 8) % 4 == 3) {
                int k = may.get((s.x >>> 20) % may.size());
                tried.put(j, s.now.plan.get(k));
                tried.put(k, s.now.plan.get(j));
            } else {
                int r = (s.x >>> 24) % 7;
                tried.put(j, r == 6 ? NONE : r);
            }
            int[] score = rate(w, tried);
            if (!better(rate(w, s.now.plan), score) || !better(s.now.late.get(place), score)) {
                s.now.plan = tried;
                s.becamePlan++;
            }
        }
        s.now.late.set(place, rate(w, s.now.plan));
        keepBest(s, w);
        s.t++;
    }

    int mark(int solve, int k) {
        if (wrongSolve(solve) || k < 0 || k > 1) {
            return BAD;
        }
        Solver s = solvers.get(solve);
        s.marks[k] = s.now.copy();
        return s.now.taken;
    }

    int back(int solve, int k) {
        if (wrongSolve(solve) || k < 0 || k > 1) {
            return BAD;
        }
        Solver s = solvers.get(solve);
        if (s.marks[k] == null) {
            return STATE;
        }
        int had = s.now.taken;
        s.now = s.marks[k].copy();
        catchUp(s, had);
        return s.marks[k].taken;
    }

    private TreeMap<Integer, Integer> planOf(int solve, boolean best) {
        State now = solvers.get(solve).now;
        return best ? now.best : now.plan;
    }

    int room(int solve, boolean best, int job) {
        if (wrongSolve(solve) || job < 0 || job > 15) {
            return BAD;
        }
        return planOf(solve, best).getOrDefault(job, STATE);
    }

    int score(int solve, boolean best, boolean hard) {
        return wrongSolve(solve) ? BAD : scoreBy(solve, best, hard, solvers.get(solve).now.taken);
    }

    int scoreBy(int solve, boolean best, boolean hard, int n) {
        if (wrongSolve(solve) || n < 0 || n > log.size()) {
            return BAD;
        }
        return rate(world(n), planOf(solve, best))[hard ? 0 : 1];
    }

    int same(int a, int b) {
        if (wrongSolve(a) || wrongSolve(b)) {
            return BAD;
        }
        State s = solvers.get(a).now;
        State o = solvers.get(b).now;
        return s.taken == o.taken && s.plan.equals(o.plan) && s.best.equals(o.best) ? 1 : 0;
    }

    int told(int solve, int what) {
        if (wrongSolve(solve) || what < 0 || what > 6) {
            return Integer.MIN_VALUE;
        }
        Solver s = solvers.get(solve);
        int[] late = s.now.late.get(s.t % s.now.late.size());
        int[] all = {s.t, s.now.taken, s.becamePlan, s.becameBest, s.x, late[0], late[1]};
        return all[what];
    }

    int fact(int what) {
        World w = latest();
        int[] counts = {w.jobs.size(), w.came, log.size(), solvers.size()};
        if (what >= 0 && what < 4) {
            return counts[what];
        }
        if (what >= 100 && what < 100 + w.came) {
            return w.jobs.containsKey(what - 100) ? 1 : 0;
        }
        if (what >= 600 && what < 606) {
            return w.sizes[what - 600];
        }
        for (Map.Entry<Integer, Job> e : w.jobs.entrySet()) {
            Job job = e.getValue();
            int lock = job.lock == null ? STATE : job.lock + 1;
            List<Integer> traits = Arrays.asList(job.length, job.weight, job.wish, lock);
            for (int i = 0; i < 4; i++) {
                if (what == 200 + 100 * i + e.getKey()) {
                    return traits.get(i);
                }
            }
        }
        return BAD;
    }

    int change(int i) {
        return i < 1 || i > log.size() ? BAD : log.get(i - 1).kind;
    }
}
