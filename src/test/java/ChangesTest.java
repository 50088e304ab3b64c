/** Promises 1 to 8, 19 and 20: changes, and what the latest facts tell of them. */
public final class ChangesTest {
    private static final int BAD = -2, STATE = -3, FULL = -4;
    private static final int[] FAR = {Integer.MIN_VALUE, -1000, -3, 1000, Integer.MAX_VALUE};

    public static void main(String[] args) {
        newObject();
        comes();
        comesWrongly();
        goes();
        turns();
        sizes();
        aparts();
        apartsEndWithTheirJobs();
        locks();
        frees();
        fullLog();
        firstThatFits();
        facts();
        changes();
        Check.end("ChangesTest");
    }

    private static LiveChanges withJobs(int n) {
        LiveChanges c = new LiveChanges();
        for (int j = 0; j < n; j++) {
            Check.due("come", c.come(10 + j, j, j % 6), j + 1);
        }
        return c;
    }

    private static void newObject() {
        LiveChanges c = new LiveChanges();
        for (int what = 0; what < 4; what++) {
            Check.due("new: fact " + what, c.fact(what), 0);
        }
        for (int j = 0; j < 16; j++) {
            Check.due("new: fact of a job", c.fact(100 + j), BAD);
        }
        for (int r = 0; r < 6; r++) {
            Check.due("new: size", c.fact(600 + r), 100);
        }
        Check.due("new: change(1)", c.change(1), BAD);
        Check.due("new: told(0, 0)", c.told(0, 0), Integer.MIN_VALUE);
        Check.due("new: go(0)", c.go(0), BAD);
        LiveChanges other = new LiveChanges();
        c.come(1, 1, 1);
        Check.due("objects share nothing", other.fact(2), 0);
    }

    private static void comes() {
        LiveChanges c = new LiveChanges();
        Check.due("come least", c.come(1, 0, 0), 1);
        Check.due("come most", c.come(100, 50, 5), 2);
        Check.due("there", c.fact(0), 2);
        Check.due("came", c.fact(1), 2);
        Check.due("length", c.fact(200), 1);
        Check.due("length", c.fact(201), 100);
        Check.due("weight", c.fact(300), 0);
        Check.due("weight", c.fact(301), 50);
        Check.due("wish", c.fact(400), 0);
        Check.due("wish", c.fact(401), 5);
        Check.due("not locked", c.fact(500), STATE);
        Check.due("kind", c.change(2), 0);
        LiveChanges full = withJobs(16);
        Check.due("a 17th", full.come(1, 1, 1), STATE);
        Check.due("came", full.fact(1), 16);
        Check.due("changes", full.fact(2), 16);
        Check.due("go", full.go(3), 17);
        Check.due("a 17th, one is gone", full.come(1, 1, 1), STATE);
        Check.due("a 17th, badly", full.come(0, 1, 1), BAD);
    }

    private static void comesWrongly() {
        LiveChanges c = new LiveChanges();
        int[][] wrong = {{0, 1, 1}, {101, 1, 1}, {1, -1, 1}, {1, 51, 1}, {1, 1, -1}, {1, 1, 6}};
        for (int[] w : wrong) {
            Check.due("come wrongly", c.come(w[0], w[1], w[2]), BAD);
        }
        for (int far : FAR) {
            Check.due("come far", c.come(far, 1, 1), BAD);
            Check.due("come far", c.come(1, far, 1), BAD);
            Check.due("come far", c.come(1, 1, far), BAD);
        }
        Check.due("nothing came", c.fact(1), 0);
        Check.due("no change", c.fact(2), 0);
        Check.due("the first is 1", c.come(1, 1, 1), 1);
    }

    private static void goes() {
        LiveChanges c = withJobs(3);
        Check.due("never came", c.go(3), BAD);
        Check.due("go(-1)", c.go(-1), BAD);
        Check.due("go(16)", c.go(16), BAD);
        for (int far : FAR) {
            Check.due("go far", c.go(far), BAD);
        }
        Check.due("go(1)", c.go(1), 4);
        Check.due("kind", c.change(4), 1);
        Check.due("gone", c.go(1), BAD);
        Check.due("there", c.fact(0), 2);
        Check.due("came", c.fact(1), 3);
        Check.due("fact(101)", c.fact(101), 0);
        Check.due("the next has a number of its own", c.come(5, 5, 5), 5);
        Check.due("fact(103)", c.fact(103), 1);
        Check.due("still gone", c.fact(101), 0);
        Check.due("turn of a gone one", c.turn(1, 1, 1, 1), BAD);
        Check.due("lock of a gone one", c.lock(1, 1), BAD);
        Check.due("free of a gone one", c.free(1), BAD);
        Check.due("apart of a gone one", c.apart(1, 0, true), BAD);
        Check.due("apart of a gone one", c.apart(0, 1, false), BAD);
    }

    private static void turns() {
        LiveChanges c = withJobs(2);
        Check.due("lock", c.lock(1, 4), 3);
        Check.due("turn", c.turn(1, 100, 50, 5), 4);
        Check.due("kind", c.change(4), 2);
        Check.due("length", c.fact(201), 100);
        Check.due("weight", c.fact(301), 50);
        Check.due("wish", c.fact(401), 5);
        Check.due("lock stays", c.fact(501), 5);
        Check.due("another's length", c.fact(200), 10);
        Check.due("to the same again", c.turn(1, 100, 50, 5), 5);
        Check.due("least", c.turn(0, 1, 0, 0), 6);
        int[][] wrong = {{2, 1, 1, 1}, {-1, 1, 1, 1}, {16, 1, 1, 1}, {0, 0, 1, 1}, {0, 101, 1, 1},
            {0, 1, -1, 1}, {0, 1, 51, 1}, {0, 1, 1, -1}, {0, 1, 1, 6}};
        for (int[] w : wrong) {
            Check.due("turn wrongly", c.turn(w[0], w[1], w[2], w[3]), BAD);
        }
        for (int far : FAR) {
            Check.due("turn far", c.turn(far, 1, 1, 1), BAD);
            Check.due("turn far", c.turn(0, far, 1, 1), BAD);
            Check.due("turn far", c.turn(0, 1, far, 1), BAD);
            Check.due("turn far", c.turn(0, 1, 1, far), BAD);
        }
        Check.due("nothing more", c.fact(2), 6);
        Check.due("length", c.fact(200), 1);
    }

    private static void sizes() {
        LiveChanges c = new LiveChanges();
        Check.due("size 0", c.size(0, 0), 1);
        Check.due("size 400", c.size(5, 400), 2);
        Check.due("kind", c.change(1), 3);
        Check.due("fact(600)", c.fact(600), 0);
        Check.due("fact(605)", c.fact(605), 400);
        Check.due("fact(601)", c.fact(601), 100);
        Check.due("to the same again", c.size(5, 400), 3);
        Check.due("-1", c.size(0, -1), BAD);
        Check.due("401", c.size(0, 401), BAD);
        Check.due("room -1", c.size(-1, 1), BAD);
        Check.due("room 6", c.size(6, 1), BAD);
        for (int far : FAR) {
            Check.due("size far", c.size(far, 1), BAD);
            Check.due("size far", c.size(1, far), BAD);
        }
        Check.due("changes", c.fact(2), 3);
    }

    private static void aparts() {
        LiveChanges c = withJobs(3);
        Check.due("need not already", c.apart(0, 1, false), STATE);
        Check.due("apart", c.apart(0, 1, true), 4);
        Check.due("kind", c.change(4), 4);
        Check.due("it is so", c.apart(0, 1, true), STATE);
        Check.due("it is so the other way", c.apart(1, 0, true), STATE);
        Check.due("others are not", c.apart(0, 2, false), STATE);
        Check.due("others are not", c.apart(1, 2, false), STATE);
        Check.due("ended the other way", c.apart(1, 0, false), 5);
        Check.due("kind", c.change(5), 5);
        Check.due("it is so", c.apart(0, 1, false), STATE);
        Check.due("anew", c.apart(1, 0, true), 6);
        Check.due("one", c.apart(1, 1, true), BAD);
        Check.due("one", c.apart(1, 1, false), BAD);
        Check.due("never came", c.apart(1, 3, true), BAD);
        Check.due("never came", c.apart(3, 1, false), BAD);
        Check.due("-1", c.apart(-1, 1, true), BAD);
        Check.due("16", c.apart(1, 16, true), BAD);
        for (int far : FAR) {
            Check.due("apart far", c.apart(far, 1, true), BAD);
            Check.due("apart far", c.apart(1, far, false), BAD);
        }
        Check.due("changes", c.fact(2), 6);
    }

    /** A gone job's pairs end with it: a solve that knows of its going pays for none. */
    private static void apartsEndWithTheirJobs() {
        LiveChanges c = withJobs(3);
        c.apart(0, 1, true);
        c.apart(1, 2, true);
        for (int j = 0; j < 3; j++) {
            c.lock(j, 0);
        }
        c.solve(1, 1);
        c.step(0, 0);
        Check.due("both pairs", c.score(0, false, true), 20);
        c.go(0);
        c.step(0, 0);
        Check.due("one pair", c.score(0, false, true), 10);
        c.go(1);
        c.step(0, 0);
        Check.due("no pair", c.score(0, false, true), 0);
    }

    private static void locks() {
        LiveChanges c = withJobs(2);
        Check.due("lock", c.lock(0, 5), 3);
        Check.due("kind", c.change(3), 6);
        Check.due("fact(500)", c.fact(500), 6);
        Check.due("fact(501)", c.fact(501), STATE);
        Check.due("anew", c.lock(0, 0), 4);
        Check.due("kind", c.change(4), 6);
        Check.due("fact(500)", c.fact(500), 1);
        Check.due("anew to the same", c.lock(0, 0), 5);
        Check.due("to none", c.lock(0, -1), 6);
        Check.due("fact(500)", c.fact(500), 0);
        Check.due("room -2", c.lock(0, -2), BAD);
        Check.due("room 6", c.lock(0, 6), BAD);
        Check.due("never came", c.lock(2, 0), BAD);
        Check.due("-1", c.lock(-1, 0), BAD);
        Check.due("16", c.lock(16, 0), BAD);
        for (int far : FAR) {
            Check.due("lock far", c.lock(far, 0), BAD);
            Check.due("lock far", c.lock(0, far), BAD);
        }
        Check.due("changes", c.fact(2), 6);
    }

    private static void frees() {
        LiveChanges c = withJobs(2);
        Check.due("not locked", c.free(0), STATE);
        c.lock(0, 3);
        Check.due("free", c.free(0), 4);
        Check.due("kind", c.change(4), 7);
        Check.due("fact(500)", c.fact(500), STATE);
        Check.due("not locked", c.free(0), STATE);
        c.lock(0, -1);
        Check.due("free of none", c.free(0), 6);
        Check.due("never came", c.free(2), BAD);
        Check.due("-1", c.free(-1), BAD);
        Check.due("16", c.free(16), BAD);
        for (int far : FAR) {
            Check.due("free far", c.free(far), BAD);
        }
        Check.due("changes", c.fact(2), 6);
    }

    private static void fullLog() {
        LiveChanges c = withJobs(3);
        c.lock(2, 1);
        for (int i = 5; i <= 120; i++) {
            Check.due("size", c.size(1, i), i);
        }
        Check.due("come", c.come(1, 1, 1), FULL);
        Check.due("go", c.go(0), FULL);
        Check.due("turn", c.turn(0, 1, 1, 1), FULL);
        Check.due("size", c.size(1, 1), FULL);
        Check.due("apart", c.apart(0, 1, true), FULL);
        Check.due("lock", c.lock(0, 1), FULL);
        Check.due("free", c.free(2), FULL);
        Check.due("changes", c.fact(2), 120);
        Check.due("came", c.fact(1), 3);
        Check.due("there", c.fact(0), 3);
        Check.due("length", c.fact(200), 10);
        Check.due("size", c.fact(601), 120);
        Check.due("lock", c.fact(500), STATE);
        Check.due("lock", c.fact(502), 2);
        Check.due("the last", c.change(120), 3);
        Check.due("none behind it", c.change(121), BAD);
        Check.due("solves are made all the same", c.solve(1, 1), 0);
        Check.due("it takes all", c.take(0, 120), 120);
    }

    /** In a full log, BAD and STATE still come ahead of FULL. */
    private static void firstThatFits() {
        LiveChanges c = withJobs(16);
        c.apart(0, 1, true);
        for (int i = 18; i <= 120; i++) {
            c.size(1, i);
        }
        Check.due("come", c.come(0, 1, 1), BAD);
        Check.due("come", c.come(1, 1, 1), STATE);
        Check.due("go", c.go(16), BAD);
        Check.due("turn", c.turn(0, 0, 1, 1), BAD);
        Check.due("size", c.size(6, 1), BAD);
        Check.due("apart", c.apart(0, 0, true), BAD);
        Check.due("apart", c.apart(1, 0, true), STATE);
        Check.due("apart", c.apart(2, 0, false), STATE);
        Check.due("lock", c.lock(0, 6), BAD);
        Check.due("free", c.free(-1), BAD);
        Check.due("free", c.free(0), STATE);
        Check.due("apart, else", c.apart(2, 0, true), FULL);
    }

    private static void facts() {
        LiveChanges c = withJobs(2);
        c.go(0);
        c.solve(1, 1);
        Check.due("there", c.fact(0), 1);
        Check.due("came", c.fact(1), 2);
        Check.due("changes", c.fact(2), 3);
        Check.due("solves", c.fact(3), 1);
        Check.due("fact(4)", c.fact(4), BAD);
        Check.due("fact(99)", c.fact(99), BAD);
        Check.due("fact(100)", c.fact(100), 0);
        Check.due("fact(101)", c.fact(101), 1);
        Check.due("fact(102)", c.fact(102), BAD);
        for (int group = 2; group <= 5; group++) {
            Check.due("gone", c.fact(100 * group), BAD);
            Check.due("never came", c.fact(100 * group + 2), BAD);
            Check.due("no job", c.fact(100 * group + 16), BAD);
            Check.due("no job", c.fact(100 * group + 99), BAD);
        }
        Check.due("fact(116)", c.fact(116), BAD);
        Check.due("fact(606)", c.fact(606), BAD);
        Check.due("fact(616)", c.fact(616), BAD);
        Check.due("fact(701)", c.fact(701), BAD);
        Check.due("fact(-1)", c.fact(-1), BAD);
        Check.due("fact(-100)", c.fact(-100), BAD);
        Check.due("fact(-199)", c.fact(-199), BAD);
        Check.due("fact(10001)", c.fact(10001), BAD);
        Check.due("least", c.fact(Integer.MIN_VALUE), BAD);
        Check.due("most", c.fact(Integer.MAX_VALUE), BAD);
    }

    private static void changes() {
        LiveChanges c = withJobs(2);
        c.go(0);
        Check.due("change(0)", c.change(0), BAD);
        Check.due("change(1)", c.change(1), 0);
        Check.due("change(3)", c.change(3), 1);
        Check.due("change(4)", c.change(4), BAD);
        Check.due("change(-1)", c.change(-1), BAD);
        Check.due("change(121)", c.change(121), BAD);
        Check.due("least", c.change(Integer.MIN_VALUE), BAD);
        Check.due("most", c.change(Integer.MAX_VALUE), BAD);
    }
}
