/** Promises 38 to 46: the edge, deaths by chance, rambles by draws. */
public final class ChancesTest {
    private static final String FORK = "forest dies 30;place a dark holds 9;place b dark holds 9;place c dark holds 9;"
            + "path a c;path a b;man m sport at a";

    public static void main(String[] args) {
        Check c = new Check("ChancesTest");
        edges(c);
        rests(c);
        breathing(c);
        silence(c);
        means(c);
        rambling(c);
        standing(c);
        meeting(c);
        withoutForest(c);
        c.end();
    }

    private static void edges(Check c) {
        KillFollows x = c.told(FORK);
        int[] worths = {0, 1, 7, 20};
        for (int w : worths) {
            c.fine("edge of the road, keeper", x, x.edge(w, false, false, false), 0);
            c.fine("edge of the road, poacher", x, x.edge(w, false, false, true), 0);
            c.fine("edge, poacher alone, keeper", x, x.edge(w, false, true, false), -w);
            c.fine("edge, poacher alone, poacher", x, x.edge(w, false, true, true), w);
            c.fine("edge, keeper alone, keeper", x, x.edge(w, true, false, false), -1);
            c.fine("edge, keeper alone, poacher", x, x.edge(w, true, false, true), 0);
            c.fine("edge, both, keeper", x, x.edge(w, true, true, false), 3);
            c.fine("edge, both, poacher", x, x.edge(w, true, true, true), -w);
        }
        c.refused("edge(21)", x, x.edge(21, false, false, false), -100, 2);
        c.refused("edge(-1)", x, x.edge(-1, true, true, true), -100, 2);
    }

    private static void rests(Check c) {
        KillFollows x = c.told(FORK);
        // Of no worth: both on the road, or both in the wood, for the poacher loses nothing.
        c.fine("rests(0)", x, x.rests(0), 2);
        c.fine("rest(0)", x, x.rest(0), 0);
        for (int w = 1; w <= 20; w++) {
            c.fine("rests(" + w + ")", x, x.rests(w), 0);
            c.fine("rest(" + w + ")", x, x.rest(w), -2);
        }
        c.refused("rests(21)", x, x.rests(21), 2);
        c.refused("rests(-1)", x, x.rests(-1), 2);
        c.refused("rest(21)", x, x.rest(21), 2);
        c.refused("rest(-1)", x, x.rest(-1), 2);
    }

    private static KillFollows dying(Check c, int dies, int men, int kills) {
        StringBuilder text = new StringBuilder("forest dies " + dies + ";place a dark holds 9");
        for (int m = 0; m < men; m++) {
            text.append(";man m").append((char) ('a' + m)).append(" sport at a");
        }
        for (int k = 0; k < kills; k++) {
            text.append(";kill k").append((char) ('a' + k)).append(" by ma far 0 worth 0");
        }
        return c.told(text.toString());
    }

    private static void breathing(Check c) {
        int[] dies = {0, 1, 30, 50, 100};
        long[][] upper = {{0, 0, 0}, {0, 1, 199}, {0, 3, 51}, {0, 1, 3}, {0, 1, 1}};
        long[][] lower = {{1, 1, 1}, {1, 100, 10000}, {1, 10, 100}, {1, 2, 4}, {1, 1, 1}};
        for (int i = 0; i < dies.length; i++) {
            KillFollows x = dying(c, dies[i], 2, 1);
            for (int n = 0; n <= 2; n++) {
                c.fine("breathes(0, " + n + ", false) of " + dies[i], x, x.breathes(0, n, false), upper[i][n]);
                x.breathes(9, 0, true);
                c.fine("breathes(0, " + n + ", true) of " + dies[i], x, x.breathes(0, n, true), lower[i][n]);
            }
            c.refused("breathes(1, 0, true)", x, x.breathes(1, 0, true), 1);
            c.refused("breathes(1, 3, true)", x, x.breathes(1, 3, true), 1);
            c.refused("breathes(-1, 0, true)", x, x.breathes(-1, 0, true), 1);
            c.refused("breathes(0, 3, true)", x, x.breathes(0, 3, true), 2);
            c.refused("breathes(0, -1, false)", x, x.breathes(0, -1, false), 2);
        }
    }

    private static void silence(Check c) {
        KillFollows x = dying(c, 1, 4, 0);
        c.fine("silent(0, false)", x, x.silent(0, false), 0);
        x.silent(9, true);
        c.fine("silent(0, true)", x, x.silent(0, true), 1);
        c.due("silent(1, false)", x.silent(1, false), 1);
        c.due("silent(1, true)", x.silent(1, true), 100000000L);
        c.due("silent(2, false)", x.silent(2, false), 1568239201L);
        c.due("silent(2, true)", x.silent(2, true), 10000000000000000L);
        c.refused("silent(3, true)", x, x.silent(3, true), 2);
        c.refused("silent(-1, true)", x, x.silent(-1, true), 2);
        x = dying(c, 50, 3, 0);
        c.due("silent(2, false) of three", x.silent(2, false), 27);
        c.due("silent(2, true) of three", x.silent(2, true), 64);
        x = dying(c, 99, 4, 0);
        c.due("silent(2, false)", x.silent(2, false), 9999L * 9999 * 9999 * 9999);
        c.due("silent(2, true)", x.silent(2, true), 10000000000000000L);
        x = dying(c, 0, 0, 0);
        c.due("silent(2, false) without men", x.silent(2, false), 1);
        c.due("silent(2, true) without men", x.silent(2, true), 1);
    }

    private static void means(Check c) {
        KillFollows x = dying(c, 30, 2, 4);
        c.fine("mean(0, false)", x, x.mean(0, false), 0);
        x.mean(9, true);
        c.fine("mean(0, true)", x, x.mean(0, true), 1);
        c.due("mean(1, false)", x.mean(1, false), 6);
        c.due("mean(1, true)", x.mean(1, true), 5);
        c.due("mean(2, false)", x.mean(2, false), 51);
        c.due("mean(2, true)", x.mean(2, true), 25);
        x.take(0, 1);
        c.due("mean(2, false) whomever they follow", x.mean(2, false), 51);
        c.refused("mean(3, true)", x, x.mean(3, true), 2);
        c.refused("mean(-1, true)", x, x.mean(-1, true), 2);
        x = dying(c, 100, 1, 6);
        c.due("mean(1, false) of all", x.mean(1, false), 6);
        c.due("mean(1, true) of all", x.mean(1, true), 1);
    }

    private static void rambling(Check c) {
        // The draws from 0 on: 74, 5624, 28652, 51790, 17641, 12409, 13231.
        KillFollows x = c.told(FORK);
        int[] due = {0, 2, 2, 2, 2, 0, 1, 0};
        for (int n = 0; n < due.length; n++) {
            c.fine("rambles(0, 0, " + n + ")", x, x.rambles(0, 0, n), due[n]);
        }
        c.due("rambles(0, 65536, 1): it draws itself for ever", x.rambles(0, 65536, 1), 1);
        c.due("rambles(0, 65536, 60)", x.rambles(0, 65536, 60), 1);
        KillFollows y = c.told("forest dies 0;place a dark holds 9;place b dark holds 9;place c dark holds 9;"
                + "path c b;path a b;man m sport at b");
        c.due("rambles(0, 65536, 1): neighbours by numbers", y.rambles(0, 65536, 1), 0);
        c.due("rambles(0, 0, 1): neighbours by numbers", y.rambles(0, 0, 1), 2);
        c.due("trail(0, 0) is as it was", x.trail(0, 0), 0);
        c.refused("rambles(1, 0, 0)", x, x.rambles(1, 0, 0), 1);
        c.refused("rambles(-1, 0, 0)", x, x.rambles(-1, 0, 0), 1);
        c.refused("rambles(1, -1, 61)", x, x.rambles(1, -1, 61), 1);
        c.refused("rambles(0, 65537, 0)", x, x.rambles(0, 65537, 0), 2);
        c.refused("rambles(0, -1, 0)", x, x.rambles(0, -1, 0), 2);
        c.refused("rambles(0, 0, 61)", x, x.rambles(0, 0, 61), 2);
        c.refused("rambles(0, 0, -1)", x, x.rambles(0, 0, -1), 2);
        // Men draw one by one; he who has no neighbours draws too.
        x = c.told(FORK + ";man n sport at b");
        int[] other = {1, 1, 1, 0};
        int[] first = {0, 2, 2, 0};
        for (int n = 0; n < 4; n++) {
            c.due("rambles(0, 0, " + n + ") of two", x.rambles(0, 0, n), first[n]);
            c.due("rambles(1, 0, " + n + ") of two", x.rambles(1, 0, n), other[n]);
        }
        x = c.told("forest dies 30;place a dark holds 9;place b dark holds 9;place c dark holds 9;place d dark holds 9;"
                + "path a c;path a b;man o sport at d;man m sport at a");
        int[] behind = {0, 2, 2, 0};
        for (int n = 0; n < 4; n++) {
            c.due("rambles(0, 0, " + n + ") by himself", x.rambles(0, 0, n), 3);
            c.due("rambles(1, 0, " + n + ") behind another", x.rambles(1, 0, n), behind[n]);
        }
    }

    private static void standing(Check c) {
        KillFollows x = c.told(FORK + ";kill k by m far 0 worth 0;kill l by m far 1 worth 0;kill j by m far 3 worth 0");
        int[][] due = {{0, 2, 2, 2, 2, 0, 1, 0}, {0, 0, 2, 2, 2, 2, 0, 1}, {0, 0, 0, 0, 2, 2, 2, 2}};
        for (int k = 0; k < 3; k++) {
            for (int n = 0; n < 8; n++) {
                c.fine("stands(" + k + ", 0, " + n + ")", x, x.stands(k, 0, n), due[k][n]);
            }
        }
        x.light(2, true);
        c.due("stands(1, 0, 4): out of the light", x.stands(1, 0, 4), 0);
        x.light(0, true);
        c.fine("stands(1, 0, 4): nowhere", x, x.stands(1, 0, 4), -2);
        c.due("stands(1, 0, 7)", x.stands(1, 0, 7), 1);
        c.refused("stands(3, 0, 0)", x, x.stands(3, 0, 0), 1);
        c.refused("stands(-1, 0, 0)", x, x.stands(-1, 0, 0), 1);
        c.refused("stands(3, -1, 0)", x, x.stands(3, -1, 0), 1);
        c.refused("stands(0, 65537, 0)", x, x.stands(0, 65537, 0), 2);
        c.refused("stands(0, -1, 0)", x, x.stands(0, -1, 0), 2);
        c.refused("stands(0, 0, 61)", x, x.stands(0, 0, 61), 2);
        c.refused("stands(0, 0, -1)", x, x.stands(0, 0, -1), 2);
    }

    private static void meeting(Check c) {
        KillFollows x = c.told(FORK + ";man n sport at b");
        c.fine("meet(0, 60)", x, x.meet(0, 60), 3);
        c.fine("meet(0, 3)", x, x.meet(0, 3), 3);
        c.fine("meet(0, 2)", x, x.meet(0, 2), -2);
        c.fine("meet(0, 0)", x, x.meet(0, 0), -2);
        c.refused("meet(65537, 0)", x, x.meet(65537, 0), 2);
        c.refused("meet(-1, 0)", x, x.meet(-1, 0), 2);
        c.refused("meet(0, 61)", x, x.meet(0, 61), 2);
        c.refused("meet(0, -1)", x, x.meet(0, -1), 2);
        // They are together now, but only a time that has passed counts.
        x = c.told("forest dies 0;place a dark holds 0;man m sport at a;man n sport at a");
        c.due("meet(5, 0) of two at one place", x.meet(5, 0), -2);
        c.due("meet(5, 9) of two at one place", x.meet(5, 9), 1);
        x = c.told("forest dies 0;place a dark holds 0;place b dark holds 0;man m sport at a;man n sport at b");
        c.due("meet(5, 60) apart", x.meet(5, 60), -2);
    }

    private static void withoutForest(Check c) {
        KillFollows x = new KillFollows();
        c.refused("edge(0)", x, x.edge(0, false, false, false), -100, 1);
        c.refused("edge(21)", x, x.edge(21, false, false, false), -100, 1);
        c.refused("rests(21)", x, x.rests(21), 1);
        c.refused("rest(0)", x, x.rest(0), 1);
        c.refused("breathes(0, 0, true)", x, x.breathes(0, 0, true), 1);
        c.refused("silent(3, true)", x, x.silent(3, true), 1);
        c.refused("mean(0, true)", x, x.mean(0, true), 1);
        c.refused("rambles(0, 0, 0)", x, x.rambles(0, 0, 0), 1);
        c.refused("stands(0, 0, 0)", x, x.stands(0, 0, 0), 1);
        c.refused("meet(-1, 0)", x, x.meet(-1, 0), 1);
    }
}
