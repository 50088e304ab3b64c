import java.util.ArrayList;
import java.util.List;
import java.util.function.Supplier;
import java.util.function.ToIntFunction;

/**
 * "Answers below 0, the first that fits: BAD .., STATE .., FULL .. They change nothing."
 *
 * <p>Each refused call is made on an object of its own; all that can be asked of that object, now and
 * further on, must be as with a twin of which the call was not asked.
 */
public final class RefusalsTest {
    private static final int NONE = -1, BAD = -2, STATE = -3, FULL = -4;
    private static final int LEAST = Integer.MIN_VALUE;
    private static final int[] WRONG_SOLVES = {-1, 3, Integer.MIN_VALUE, Integer.MAX_VALUE};

    private record Refusal(String name, int due, ToIntFunction<LiveChanges> call) {
    }

    public static void main(String[] args) {
        ofANewObject();
        onTheWay();
        ofAFullObject();
        manyInARow();
        Check.end("RefusalsTest");
    }

    private static void ofANewObject() {
        List<Refusal> refusals = new ArrayList<>();
        addWrongNumbers(refusals);
        addAll(refusals, BAD, "of what is not there",
            c -> c.go(0), c -> c.turn(0, 1, 1, 1), c -> c.apart(0, 1, true), c -> c.apart(0, 1, false),
            c -> c.lock(0, 0), c -> c.lock(0, NONE), c -> c.free(0), c -> c.take(0, 0),
            c -> c.step(0, 0), c -> c.step(0, 200), c -> c.mark(0, 0), c -> c.back(0, 0),
            c -> c.room(0, false, 0), c -> c.score(0, true, true), c -> c.scoreBy(0, true, true, 0),
            c -> c.same(0, 0), c -> c.fact(100), c -> c.fact(200), c -> c.fact(500), c -> c.change(1));
        addAll(refusals, LEAST, "of what is not there", c -> c.told(0, 0), c -> c.told(0, 4));
        look("new", LiveChanges::new, refusals);
    }

    /** Job 1 is gone, 2 is locked, 0 and 3 are apart; two solves, of which 0 is behind the log. */
    private static LiveChanges midway() {
        LiveChanges c = new LiveChanges();
        c.come(60, 5, 1);
        c.come(50, 4, 1);
        c.solve(3, 4);
        c.solve(4, 1);
        c.step(0, 9);
        c.mark(0, 1);
        c.come(40, 3, 2);
        c.come(30, 2, 3);
        c.apart(0, 3, true);
        c.go(1);
        c.step(0, 9);
        c.step(1, 5);
        c.mark(1, 0);
        c.step(1, 7);
        c.lock(2, 4);
        c.size(1, 20);
        c.step(1, 3);
        return c;
    }

    private static void onTheWay() {
        List<Refusal> refusals = new ArrayList<>();
        addWrongNumbers(refusals);
        addWrongCallsOfSolve0(refusals);
        addAll(refusals, BAD, "of a gone job, or of one that never came",
            c -> c.go(1), c -> c.turn(1, 1, 1, 1), c -> c.apart(1, 0, true), c -> c.apart(0, 1, false),
            c -> c.lock(1, 1), c -> c.free(1), c -> c.go(4), c -> c.turn(4, 1, 1, 1),
            c -> c.apart(4, 0, true), c -> c.lock(4, 1), c -> c.free(4), c -> c.fact(104),
            c -> c.fact(201), c -> c.fact(301), c -> c.fact(401), c -> c.fact(501));
        addAll(refusals, BAD, "beyond the log", c -> c.take(0, 9), c -> c.scoreBy(0, false, true, 9),
            c -> c.change(9));
        addAll(refusals, BAD, "of a solve that is not there yet", c -> c.take(2, 0), c -> c.step(2, 1),
            c -> c.mark(2, 0), c -> c.back(2, 0), c -> c.room(2, true, 0), c -> c.same(0, 2));
        addAll(refusals, STATE, "not as things stand",
            c -> c.apart(0, 3, true), c -> c.apart(3, 0, true), c -> c.apart(0, 2, false),
            c -> c.free(0), c -> c.free(3), c -> c.back(0, 0), c -> c.back(1, 1),
            c -> c.room(0, false, 1), c -> c.room(1, true, 15), c -> c.fact(500));
        look("midway", RefusalsTest::midway, refusals);
    }

    /** 16 jobs, 120 changes, 3 solves. */
    private static LiveChanges full() {
        LiveChanges c = new LiveChanges();
        for (int j = 0; j < 16; j++) {
            c.come(10 + j, j, j % 6);
        }
        c.apart(0, 1, true);
        c.lock(2, 3);
        for (int s = 0; s < 3; s++) {
            c.solve(s, 2 * s + 1);
            c.step(s, 20);
        }
        c.mark(0, 0);
        c.mark(1, 1);
        for (int i = 19; i <= 120; i++) {
            c.size(i % 6, i);
        }
        c.step(1, 20);
        return c;
    }

    private static void ofAFullObject() {
        List<Refusal> refusals = new ArrayList<>();
        addWrongNumbers(refusals);
        addWrongCallsOfSolve0(refusals);
        addAll(refusals, FULL, "no more changes",
            c -> c.go(0), c -> c.go(15), c -> c.turn(0, 1, 1, 1), c -> c.size(0, 0), c -> c.size(5, 400),
            c -> c.apart(0, 2, true), c -> c.apart(1, 0, false), c -> c.lock(0, 0),
            c -> c.lock(2, NONE), c -> c.free(2));
        addAll(refusals, FULL, "no more solves", c -> c.solve(1, 1), c -> c.solve(1, 8));
        addAll(refusals, STATE, "ahead of FULL", c -> c.come(1, 1, 1), c -> c.come(100, 50, 5),
            c -> c.apart(0, 1, true), c -> c.apart(1, 0, true), c -> c.apart(0, 2, false),
            c -> c.free(0), c -> c.back(0, 1), c -> c.back(2, 0));
        addAll(refusals, BAD, "beyond the log", c -> c.take(0, 121), c -> c.change(121),
            c -> c.scoreBy(0, false, true, 121));
        look("full", RefusalsTest::full, refusals);
    }

    @SafeVarargs
    private static void addAll(List<Refusal> to, int due, String name,
            ToIntFunction<LiveChanges>... calls) {
        for (ToIntFunction<LiveChanges> call : calls) {
            to.add(new Refusal(name + " (" + to.size() + ")", due, call));
        }
    }

    /** What is BAD in every state. */
    private static void addWrongNumbers(List<Refusal> to) {
        addAll(to, BAD, "come", c -> c.come(0, 1, 1), c -> c.come(101, 1, 1), c -> c.come(1, -1, 1),
            c -> c.come(1, 51, 1), c -> c.come(1, 1, -1), c -> c.come(1, 1, 6));
        addAll(to, BAD, "go", c -> c.go(-1), c -> c.go(16));
        addAll(to, BAD, "turn", c -> c.turn(-1, 1, 1, 1), c -> c.turn(16, 1, 1, 1),
            c -> c.turn(0, 0, 1, 1), c -> c.turn(0, 101, 1, 1), c -> c.turn(0, 1, -1, 1),
            c -> c.turn(0, 1, 51, 1), c -> c.turn(0, 1, 1, -1), c -> c.turn(0, 1, 1, 6));
        addAll(to, BAD, "size", c -> c.size(-1, 1), c -> c.size(6, 1), c -> c.size(0, -1),
            c -> c.size(0, 401));
        addAll(to, BAD, "apart", c -> c.apart(-1, 0, true), c -> c.apart(0, 16, true),
            c -> c.apart(0, 0, true), c -> c.apart(0, 0, false));
        addAll(to, BAD, "lock", c -> c.lock(-1, 0), c -> c.lock(16, 0), c -> c.lock(0, -2),
            c -> c.lock(0, 6));
        addAll(to, BAD, "free", c -> c.free(-1), c -> c.free(16));
        addAll(to, BAD, "solve", c -> c.solve(1, 0), c -> c.solve(1, 9), c -> c.solve(1, -1));
        addAll(to, BAD, "fact", c -> c.fact(-1), c -> c.fact(4), c -> c.fact(116), c -> c.fact(606));
        addAll(to, BAD, "change", c -> c.change(0), c -> c.change(-1), c -> c.change(121));
        for (int s : WRONG_SOLVES) {
            addAll(to, BAD, "solve " + s, c -> c.take(s, 0), c -> c.step(s, 1), c -> c.mark(s, 0),
                c -> c.back(s, 0), c -> c.room(s, true, 0), c -> c.score(s, true, true),
                c -> c.scoreBy(s, true, true, 0), c -> c.same(s, 0), c -> c.same(0, s));
            addAll(to, LEAST, "solve " + s, c -> c.told(s, 0), c -> c.told(s, 7));
        }
    }

    private static void addWrongCallsOfSolve0(List<Refusal> to) {
        addAll(to, BAD, "take", c -> c.take(0, -1), c -> c.take(0, Integer.MAX_VALUE),
            c -> c.take(0, Integer.MIN_VALUE));
        addAll(to, BAD, "step", c -> c.step(0, -1), c -> c.step(0, 201),
            c -> c.step(0, Integer.MAX_VALUE), c -> c.step(0, Integer.MIN_VALUE));
        addAll(to, BAD, "mark", c -> c.mark(0, -1), c -> c.mark(0, 2));
        addAll(to, BAD, "back", c -> c.back(0, -1), c -> c.back(0, 2));
        addAll(to, BAD, "room", c -> c.room(0, true, -1), c -> c.room(0, false, 16));
        addAll(to, BAD, "scoreBy", c -> c.scoreBy(0, true, true, -1));
        addAll(to, LEAST, "told", c -> c.told(0, -1), c -> c.told(0, 7));
    }

    private static void look(String scene, Supplier<LiveChanges> make, List<Refusal> refusals) {
        for (Refusal r : refusals) {
            String name = scene + ", " + r.name;
            Check.due(name, r.call.applyAsInt(make.get()), r.due);
            compare(name, ofFacts(make.get()), ofFacts(refused(make, r)));
            compare(name, ofSolves(make.get()), ofSolves(refused(make, r)));
            compare(name, furtherOn(make.get()), furtherOn(refused(make, r)));
        }
    }

    private static LiveChanges refused(Supplier<LiveChanges> make, Refusal r) {
        LiveChanges c = make.get();
        r.call.applyAsInt(c);
        return c;
    }

    private static void compare(String name, List<Integer> twin, List<Integer> refused) {
        for (int i = 0; i < twin.size(); i++) {
            Check.due(name + ": answer " + i + " behind it", refused.get(i), twin.get(i));
        }
    }

    /** The refused calls of one state all on one object. */
    private static void manyInARow() {
        List<Refusal> refusals = new ArrayList<>();
        addWrongNumbers(refusals);
        addWrongCallsOfSolve0(refusals);
        LiveChanges c = midway();
        for (Refusal r : refusals) {
            Check.due("in a row: " + r.name, r.call.applyAsInt(c), r.due);
        }
        compare("in a row", furtherOn(midway()), furtherOn(c));
    }

    private static List<Integer> ofFacts(LiveChanges c) {
        List<Integer> all = new ArrayList<>();
        for (int what = 0; what < 4; what++) {
            all.add(c.fact(what));
        }
        for (int group = 100; group <= 500; group += 100) {
            for (int j = 0; j < 16; j++) {
                all.add(c.fact(group + j));
            }
        }
        for (int r = 0; r < 6; r++) {
            all.add(c.fact(600 + r));
        }
        for (int i = 1; i <= 120; i++) {
            all.add(c.change(i));
        }
        return all;
    }

    private static List<Integer> ofSolves(LiveChanges c) {
        List<Integer> all = new ArrayList<>();
        for (int s = 0; s < 3; s++) {
            for (int what = 0; what <= 6; what++) {
                all.add(c.told(s, what));
            }
            for (int j = 0; j < 16; j++) {
                all.add(c.room(s, false, j));
                all.add(c.room(s, true, j));
            }
            for (int n = 0; n <= 120; n += 8) {
                all.add(c.scoreBy(s, true, true, n));
                all.add(c.scoreBy(s, false, false, n));
            }
            all.add(c.same(s, (s + 1) % 3));
        }
        return all;
    }

    /** What does not show at once: the whole of LATE, the marks, who is apart, the next numbers. */
    private static List<Integer> furtherOn(LiveChanges c) {
        List<Integer> all = new ArrayList<>();
        for (int s = 0; s < 3; s++) {
            for (int i = 0; i < 9; i++) {
                all.add(c.told(s, 5));
                all.add(c.told(s, 6));
                all.add(c.step(s, 1));
            }
            for (int k = 0; k < 2; k++) {
                all.add(c.back(s, k));
                all.add(c.score(s, false, false));
                all.add(c.score(s, true, false));
                all.add(c.told(s, 6));
            }
        }
        for (int j = 0; j < 16; j++) {
            all.add(c.apart(j, (j + 1) % 16, true));
            all.add(c.apart(j, (j + 3) % 16, false));
        }
        all.add(c.come(9, 9, 5));
        all.add(c.solve(1, 1));
        for (int s = 0; s < 3; s++) {
            all.add(c.step(s, 40));
            all.add(c.score(s, true, true));
            all.add(c.score(s, true, false));
        }
        return all;
    }
}
