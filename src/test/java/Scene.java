import java.util.function.IntPredicate;

/** What several tests need to bring a solve where they want it, and to look at it there. */
final class Scene {
    /** Numbers that no call takes for anything but a seed. */
    static final int[] FAR = {Integer.MIN_VALUE, Integer.MIN_VALUE + 1, -1000, 1000,
        Integer.MAX_VALUE - 1, Integer.MAX_VALUE};

    private Scene() {
    }

    static int next(int x) {
        return x * 1103515245 + 12345;
    }

    /** A seed whose first steps do as wanted, one behind the other. */
    static int seedFor(IntPredicate... wants) {
        for (int seed = 0; seed < 100_000_000; seed++) {
            int x = seed;
            boolean fits = true;
            for (int i = 0; i < wants.length && fits; i++) {
                x = next(x);
                fits = wants[i].test(x);
            }
            if (fits) {
                return seed;
            }
        }
        throw new IllegalStateException("no seed");
    }

    /** Number j of m comes to the room; 6 is none. */
    static IntPredicate moves(int m, int j, int room) {
        return x -> (x >>> 8) % 4 != 3 && (x >>> 16) % m == j && (x >>> 24) % 7 == room;
    }

    static IntPredicate swaps(int m, int j, int k) {
        return x -> (x >>> 8) % 4 == 3 && (x >>> 16) % m == j && (x >>> 20) % m == k;
    }

    static void dueScore(LiveChanges c, int solve, boolean best, int hard, int soft) {
        Check.due("hard of " + solve + (best ? " best" : " plan"), c.score(solve, best, true), hard);
        Check.due("soft of " + solve + (best ? " best" : " plan"), c.score(solve, best, false), soft);
    }

    static void dueRooms(LiveChanges c, int solve, boolean best, int... rooms) {
        for (int j = 0; j < rooms.length; j++) {
            Check.due("room of " + j + " in " + solve + (best ? " best" : " plan"),
                c.room(solve, best, j), rooms[j]);
        }
    }
}
