/** Promises 21 to 24: where a kill would stand, and how it is lured somewhere. */
public final class LuringTest {
    // A row a b c d with c lit, and e by itself; sid's kills follow none, one, two behind.
    private static final String ROW = "forest dies 0;place a dark holds 9;place b dark holds 9;place c lit holds 9;"
            + "place d dark holds 9;place e dark holds 9;path a b;path b c;path c d;"
            + "man sid sport at a;man pat poacher at a;"
            + "kill ka by sid far 0 worth 1;kill kb by sid far 1 worth 1;kill kc by sid far 2 worth 1;"
            + "kill kd by pat far 3 worth 1";

    public static void main(String[] args) {
        Check c = new Check("LuringTest");
        following(c);
        wrongRows(c);
        luring(c);
        firstRows(c);
        farBehind(c);
        nothingChanges(c);
        withoutForest(c);
        c.end();
    }

    private static void following(Check c) {
        KillFollows x = c.told(ROW);
        c.fine("follows(0, 0, 0)", x, x.follows(0, 0, 0), 0);
        c.fine("follows(0, 2, 1)", x, x.follows(0, 2, 1), 1);
        c.fine("follows(1, 2, 1)", x, x.follows(1, 2, 1), 0);
        c.due("follows(0, 23, 2): out of the light", x.follows(0, 23, 2), 1);
        c.due("follows(0, 234, 3)", x.follows(0, 234, 3), 3);
        c.due("follows(1, 234, 3)", x.follows(1, 234, 3), 1);
        c.due("follows(2, 234, 3)", x.follows(2, 234, 3), 1);
        c.due("follows(2, 2340, 4)", x.follows(2, 2340, 4), 1);
        c.due("follows(2, 23400, 5)", x.follows(2, 23400, 5), 3);
        c.due("follows(0, 20, 2)", x.follows(0, 20, 2), 1);
        c.due("follows(0, 2, 2): he stays first", x.follows(0, 2, 2), 1);
        c.due("follows(2, 2, 6)", x.follows(2, 2, 6), 0);
        c.due("follows(2, 200, 6)", x.follows(2, 200, 6), 1);
        c.due("follows(0, 212121, 6)", x.follows(0, 212121, 6), 0);
        c.due("follows(0, 232323, 6)", x.follows(0, 232323, 6), 1);
        c.due("follows(0, 1, 1): where he is, he stays", x.follows(0, 1, 1), 0);
        c.due("follows(0, 22, 2): where he is by then", x.follows(0, 22, 2), 1);
        // Six steps on, the seventh place of the trail is the second of now.
        c.due("follows(3, 200000, 6)", x.follows(3, 200000, 6), 0);
        x.step(1, 1);
        c.due("follows(3, 0, 5)", x.follows(3, 0, 5), 0);
        c.due("follows(3, 0, 6)", x.follows(3, 0, 6), 1);
        // All that is left of the trail is lit: nowhere.
        x = c.told(ROW);
        x.light(0, true);
        x.light(1, true);
        c.due("follows(0, 0, 0): nowhere", x.follows(0, 0, 0), -2);
        c.fine("follows(0, 232, 3): nowhere", x, x.follows(0, 232, 3), -2);
        c.due("follows(0, 234, 3)", x.follows(0, 234, 3), 3);
    }

    private static void wrongRows(Check c) {
        KillFollows x = c.told(ROW);
        c.refused("follows(4, 0, 0)", x, x.follows(4, 0, 0), 1);
        c.refused("follows(-1, 0, 0)", x, x.follows(-1, 0, 0), 1);
        c.refused("follows(4, -1, 9)", x, x.follows(4, -1, 9), 1);
        c.refused("follows(0, 0, 7)", x, x.follows(0, 0, 7), 2);
        c.refused("follows(0, 0, -1)", x, x.follows(0, 0, -1), 2);
        c.refused("follows(0, 0, MAX)", x, x.follows(0, 0, Integer.MAX_VALUE), 2);
        c.refused("follows(0, 1, 0)", x, x.follows(0, 1, 0), 2);
        c.refused("follows(0, 10, 1)", x, x.follows(0, 10, 1), 2);
        int[] tens = {1, 10, 100, 1000, 10000, 100000, 1000000};
        for (int n = 0; n <= 6; n++) {
            c.refused("follows(0, " + tens[n] + ", " + n + ")", x, x.follows(0, tens[n], n), 2);
        }
        c.refused("follows(0, 1000000, 6)", x, x.follows(0, 1000000, 6), 2);
        c.refused("follows(0, MAX, 6)", x, x.follows(0, Integer.MAX_VALUE, 6), 2);
        c.refused("follows(0, -1, 1)", x, x.follows(0, -1, 1), 2);
        c.refused("follows(0, MIN, 6)", x, x.follows(0, Integer.MIN_VALUE, 6), 2);
        c.refused("follows(0, 6, 1): no such place", x, x.follows(0, 6, 1), 2);
        c.refused("follows(0, 60, 2): no such place", x, x.follows(0, 60, 2), 2);
        c.refused("follows(0, 36, 2): a number ahead of a step", x, x.follows(0, 36, 2), 2);
        c.refused("follows(0, 3, 1): no neighbour", x, x.follows(0, 3, 1), 5);
        c.refused("follows(0, 5, 1): by itself", x, x.follows(0, 5, 1), 5);
        c.refused("follows(0, 24, 2): the second can't be", x, x.follows(0, 24, 2), 5);
    }

    private static void luring(Check c) {
        KillFollows x = c.told(ROW);
        int[][] steps = {{0, 1, -2, 3, -2}, {0, 2, -2, 4, -2}, {0, 3, -2, 5, -2}, {0, -2, -2, -2, -2}};
        int[][] rows = {{0, 2, -2, 234, -2}, {0, 20, -2, 2340, -2}, {0, 200, -2, 23400, -2}, {0, -2, -2, -2, -2}};
        for (int k = 0; k < 4; k++) {
            for (int p = 0; p < 5; p++) {
                c.fine("lure(" + k + ", " + p + ")", x, x.lure(k, p), steps[k][p]);
                c.fine("lureRow(" + k + ", " + p + ")", x, x.lureRow(k, p), rows[k][p]);
            }
        }
        int[] within = {1, 3, 3, 11, 11, 11};
        for (int n = 0; n <= 5; n++) {
            c.fine("lures(0, " + n + ")", x, x.lures(0, n), within[n]);
            c.due("lures(1, " + n + ")", x.lures(1, n), n < 2 ? 1 : n < 4 ? 3 : 11);
            c.due("lures(2, " + n + ")", x.lures(2, n), n < 3 ? 1 : n < 5 ? 3 : 11);
            c.due("lures(3, " + n + ")", x.lures(3, n), 1);
        }
        c.refused("lure(4, 0)", x, x.lure(4, 0), 1);
        c.refused("lure(-1, 0)", x, x.lure(-1, 0), 1);
        c.refused("lure(0, 5)", x, x.lure(0, 5), 1);
        c.refused("lure(0, -1)", x, x.lure(0, -1), 1);
        c.refused("lureRow(4, 0)", x, x.lureRow(4, 0), 1);
        c.refused("lureRow(-1, 0)", x, x.lureRow(-1, 0), 1);
        c.refused("lureRow(0, 5)", x, x.lureRow(0, 5), 1);
        c.refused("lureRow(0, -1)", x, x.lureRow(0, -1), 1);
        c.refused("lures(4, 0)", x, x.lures(4, 0), 1);
        c.refused("lures(4, 6)", x, x.lures(4, 6), 1);
        c.refused("lures(-1, 0)", x, x.lures(-1, 0), 1);
        c.refused("lures(0, 6)", x, x.lures(0, 6), 2);
        c.refused("lures(0, -1)", x, x.lures(0, -1), 2);
    }

    private static void firstRows(Check c) {
        // Two ways of two steps from a to d: by c (3) and by b (2): b's is the first.
        KillFollows x = c.told("forest dies 0;place a dark holds 0;place b dark holds 0;place c dark holds 0;"
                + "place d dark holds 0;path a c;path a b;path c d;path b d;man m sport at a;"
                + "kill k by m far 0 worth 0;kill l by m far 2 worth 0");
        c.due("lure(0, 3)", x.lure(0, 3), 2);
        c.due("lureRow(0, 3)", x.lureRow(0, 3), 24);
        c.due("lure(1, 3)", x.lure(1, 3), 4);
        c.due("lureRow(1, 3): he stays behind that", x.lureRow(1, 3), 2400);
        // Where he has been: waiting is enough, and comes ahead of going.
        x.step(0, 1);
        x.step(0, 3);
        c.due("lure(1, 1)", x.lure(1, 1), 1);
        c.due("lureRow(1, 1)", x.lureRow(1, 1), 0);
        c.due("lure(1, 3)", x.lure(1, 3), 2);
        c.due("lureRow(1, 3)", x.lureRow(1, 3), 0);
        c.due("lure(1, 0): it is there", x.lure(1, 0), 0);
        c.due("lureRow(1, 0): it is there", x.lureRow(1, 0), 0);
        c.due("lure(0, 0)", x.lure(0, 0), 2);
        c.due("lureRow(0, 0)", x.lureRow(0, 0), 21);
    }

    private static void farBehind(Check c) {
        // The kill stands at the lit end's next dark place: a step drops it out of the trail's end.
        KillFollows x = c.told("forest dies 0;place a dark holds 0;place b lit holds 0;place c lit holds 0;"
                + "path a b;path b c;man m prince at a;walk m b;walk m c;walk m b;walk m c;walk m b;walk m c;walk m b;"
                + "kill k by m far 1 worth 0");
        c.due("kill(0, 4)", x.kill(0, 4), 0);
        c.due("follows(0, 0, 1): out of the trail", x.follows(0, 0, 1), -2);
        c.due("lures(0, 0)", x.lures(0, 0), 1);
        x.step(0, 1);
        c.due("lures(0, 0): nowhere", x.lures(0, 0), 0);
        c.due("lure(0, 0): back at a", x.lure(0, 0), 1);
        c.due("lureRow(0, 0)", x.lureRow(0, 0), 1);
        // A poacher's kill six behind, seven behind when that is lit: what he does now is no matter.
        x = c.told("forest dies 0;place a dark holds 0;place b lit holds 0;place c dark holds 0;place d dark holds 0;"
                + "path a b;path b c;path c d;path d a;man m poacher at a;"
                + "walk m b;walk m c;walk m d;walk m a;walk m b;walk m c;walk m d;kill k by m far 3 worth 0");
        // His trail is d c b a d c b a: the kill stands at a out of the light, then at c, d, a,
        // at a out of the light again, at c.
        int[] within = {1, 1 + 4, 1 + 4 + 8, 13, 13, 13};
        int[] stands = {0, 2, 3, 0, 0, 2};
        for (int n = 0; n <= 5; n++) {
            c.due("lures(0, " + n + ") far behind", x.lures(0, n), within[n]);
            c.due("follows(0, 0, " + n + ") far behind", x.follows(0, 0, n), stands[n]);
        }
        // Of a star's leaves the last place too, by staying as well as by going.
        x = c.told("forest dies 0;place a dark holds 0;place b dark holds 0;place c dark holds 0;path b a;path b c;"
                + "man m sport at b;kill k by m far 0 worth 0;kill l by m far 1 worth 0");
        c.due("lures(0, 1)", x.lures(0, 1), 7);
        c.due("lures(1, 1)", x.lures(1, 1), 2);
        c.due("lures(1, 2)", x.lures(1, 2), 7);
        x.step(0, 2);
        x.light(1, true);
        c.due("lures(1, 0)", x.lures(1, 0), 0);
        c.due("lures(1, 1): by staying or going", x.lures(1, 1), 4);
    }

    private static void nothingChanges(Check c) {
        KillFollows x = c.told(ROW);
        x.follows(0, 234, 3);
        x.lure(0, 3);
        x.lureRow(0, 2);
        x.lures(0, 5);
        c.due("trail(0, 0)", x.trail(0, 0), 0);
        c.due("trail(0, 1)", x.trail(0, 1), 0);
        c.due("size(8)", x.size(8), 0);
        c.due("size(9)", x.size(9), 0);
    }

    private static void withoutForest(Check c) {
        KillFollows x = new KillFollows();
        c.refused("follows(0, 0, 0)", x, x.follows(0, 0, 0), 1);
        c.refused("lure(0, 0)", x, x.lure(0, 0), 1);
        c.refused("lureRow(0, 0)", x, x.lureRow(0, 0), 1);
        c.refused("lures(0, 0)", x, x.lures(0, 0), 1);
    }
}
