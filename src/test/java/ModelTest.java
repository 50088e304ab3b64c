import java.util.Random;

/** All promises: long runs of calls, drawn from fixed seeds, answered as the model answers them. */
public final class ModelTest {
    private static final int RUNS = 400;
    private static final int CALLS = 512;
    private static final int[] WILD = {Integer.MIN_VALUE, Integer.MIN_VALUE + 1, -101, -100, -3, -2,
        -1, 6, 7, 9, 16, 17, 32, 51, 101, 120, 121, 201, 401, 1 << 16, 1 << 30, Integer.MAX_VALUE};

    private final Random random;
    private final LiveChanges real = new LiveChanges();
    private final Model model = new Model();
    /** How often, of 100, a call makes a change: some runs fill the log, some hardly begin it. */
    private final int changing;
    /** How often, of 1000, a number is drawn wild. */
    private final int wildness;
    private final int name;

    private ModelTest(int name) {
        this.name = name;
        random = new Random(name);
        changing = 5 + random.nextInt(50);
        wildness = name % 4 == 0 ? 200 : 8;
    }

    public static void main(String[] args) {
        for (int run = 0; run < RUNS && Check.wrong() < 20; run++) {
            new ModelTest(run).run();
        }
        Check.end("ModelTest");
    }

    private int draw(int least, int most) {
        if (random.nextInt(1000) < wildness) {
            return WILD[random.nextInt(WILD.length)];
        }
        return least + random.nextInt(most - least + 1);
    }

    private void due(String call, int got, int want) {
        Check.due("run " + name + ": " + call, got, want);
    }

    private void run() {
        for (int call = 0; call < CALLS; call++) {
            if (random.nextInt(100) < changing) {
                makeChange();
            } else if (random.nextInt(100) < 45) {
                makeProgress();
            } else {
                look();
            }
        }
        lookAtAll();
    }

    private int job() {
        return draw(0, Math.min(15, real.fact(1)));
    }

    private void makeChange() {
        int kind = random.nextInt(12);
        int job = job();
        int length = draw(1, 100);
        int weight = draw(0, 50);
        int room = draw(0, 5);
        boolean on = random.nextInt(3) > 0;
        int other = job();
        int size = draw(0, random.nextBoolean() ? 120 : 400);
        switch (kind) {
            case 0, 1 -> due("come", real.come(length, weight, room), model.come(length, weight, room));
            case 2 -> {
                if (random.nextInt(3) == 0) {
                    due("go " + job, real.go(job), model.go(job));
                }
            }
            case 3, 4 -> due("turn " + job, real.turn(job, length, weight, room),
                model.turn(job, length, weight, room));
            case 5, 6 -> due("size", real.size(room, size), model.size(room, size));
            case 7, 8 -> due("apart", real.apart(job, other, on), model.apart(job, other, on));
            case 9, 10 -> {
                int to = random.nextInt(4) == 0 ? -1 : room;
                due("lock", real.lock(job, to), model.lock(job, to));
            }
            default -> due("free", real.free(job), model.free(job));
        }
    }

    private void makeProgress() {
        int solve = draw(0, Math.max(0, real.fact(3) - 1));
        int n = draw(0, real.fact(2));
        int steps = random.nextInt(8) == 0 ? draw(0, 60) : draw(0, 6);
        int k = draw(0, 1);
        int late = draw(1, 8);
        switch (random.nextInt(12)) {
            case 0 -> due("solve", real.solve(n * 7919, late), model.solve(n * 7919, late));
            case 1, 2, 3 -> due("take " + n, real.take(solve, n), model.take(solve, n));
            case 4, 5 -> due("mark " + k, real.mark(solve, k), model.mark(solve, k));
            case 6, 7 -> due("back " + k, real.back(solve, k), model.back(solve, k));
            default -> due("step " + steps, real.step(solve, steps), model.step(solve, steps));
        }
    }

    private void look() {
        int solve = draw(0, Math.max(0, real.fact(3) - 1));
        int other = draw(0, 2);
        boolean best = random.nextBoolean();
        boolean hard = random.nextBoolean();
        int n = draw(0, real.fact(2));
        int job = draw(0, 15);
        int what = draw(0, 6);
        int fact = random.nextInt(4) == 0 ? draw(-3, 720) : 100 * draw(0, 7) + job;
        switch (random.nextInt(8)) {
            case 0 -> due("room", real.room(solve, best, job), model.room(solve, best, job));
            case 1 -> due("score", real.score(solve, best, hard), model.score(solve, best, hard));
            case 2, 3 -> due("scoreBy " + n, real.scoreBy(solve, best, hard, n),
                model.scoreBy(solve, best, hard, n));
            case 4 -> due("same", real.same(solve, other), model.same(solve, other));
            case 5 -> due("told " + what, real.told(solve, what), model.told(solve, what));
            case 6 -> due("fact " + fact, real.fact(fact), model.fact(fact));
            default -> due("change " + n, real.change(n), model.change(n));
        }
    }

    /** What is left behind, looked at whole, so that no slip stays hidden at the end of a run. */
    private void lookAtAll() {
        for (int what = -1; what < 720; what++) {
            due("fact " + what, real.fact(what), model.fact(what));
        }
        for (int i = -1; i <= 122; i++) {
            due("change " + i, real.change(i), model.change(i));
        }
        for (int solve = -1; solve <= 3; solve++) {
            for (int what = -1; what <= 7; what++) {
                due("told " + what, real.told(solve, what), model.told(solve, what));
            }
            for (int bits = 0; bits < 4; bits++) {
                boolean best = (bits & 1) == 1;
                boolean hard = bits > 1;
                due("score", real.score(solve, best, hard), model.score(solve, best, hard));
                for (int job = -1; job <= 16; job++) {
                    due("room", real.room(solve, best, job), model.room(solve, best, job));
                }
                for (int n = -1; n <= real.fact(2) + 1; n += 3) {
                    due("scoreBy " + n, real.scoreBy(solve, best, hard, n),
                        model.scoreBy(solve, best, hard, n));
                }
            }
            for (int other = -1; other <= 3; other++) {
                due("same", real.same(solve, other), model.same(solve, other));
            }
        }
    }
}
