/** Promises 14 to 20: ways, ways unseen, cuts. */
public final class WaysTest {
    // A ring of six places a b c d e f with a path b e across, and g by itself.
    private static final String RING = "forest dies 0;place a dark holds 9;place b dark holds 9;place c dark holds 9;"
            + "place d dark holds 9;place e dark holds 9;place f dark holds 9;place g dark holds 9;"
            + "path a b;path b c;path c d;path d e;path e f;path f a;path e b;"
            + "man m sport at a;man n prince at c;man o prince at g";

    public static void main(String[] args) {
        Check c = new Check("WaysTest");
        distances(c);
        firstSteps(c);
        unseens(c);
        safes(c);
        cuts(c);
        middles(c);
        partsOf(c);
        withoutForest(c);
        c.end();
    }

    private static void distances(Check c) {
        KillFollows x = c.told(RING);
        int[][] due = {{0, 1, 2, 3, 2, 1, -2}, {1, 0, 1, 2, 1, 2, -2}, {2, 1, 0, 1, 2, 3, -2},
            {3, 2, 1, 0, 1, 2, -2}, {2, 1, 2, 1, 0, 1, -2}, {1, 2, 3, 2, 1, 0, -2},
            {-2, -2, -2, -2, -2, -2, 0}};
        for (int p = 0; p < 7; p++) {
            for (int q = 0; q < 7; q++) {
                c.fine("apart(" + p + ", " + q + ")", x, x.apart(p, q), due[p][q]);
            }
        }
        c.refused("apart(7, 0)", x, x.apart(7, 0), 1);
        c.refused("apart(0, 7)", x, x.apart(0, 7), 1);
        c.refused("apart(-1, 0)", x, x.apart(-1, 0), 1);
        c.refused("apart(0, -1)", x, x.apart(0, -1), 1);
        // The longest way there can be: seven places in a row.
        x = c.told("forest dies 0;place a dark holds 0;place b dark holds 0;place c dark holds 0;place d dark holds 0;"
                + "place e dark holds 0;place f dark holds 0;place g dark holds 0;path c f;path f a;path a g;path g b;path b e;path e d");
        c.due("apart(2, 3)", x.apart(2, 3), 6);
        c.due("middle()", x.middle(), 6);
        c.due("parts()", x.parts(), 1);
    }

    private static void firstSteps(Check c) {
        KillFollows x = c.told(RING);
        int[] ofM = {-2, 1, 1, 1, 1, 5, -2};
        int[] ofN = {1, 1, -2, 3, 1, 1, -2};
        int[] ofO = {-2, -2, -2, -2, -2, -2, -2};
        for (int p = 0; p < 7; p++) {
            c.fine("next(0, " + p + ")", x, x.next(0, p), ofM[p]);
            c.due("next(1, " + p + ")", x.next(1, p), ofN[p]);
            c.due("next(2, " + p + ")", x.next(2, p), ofO[p]);
        }
        x.step(0, 1);
        c.due("next(0, 0)", x.next(0, 0), 0);
        c.due("next(0, 5): by a or by e", x.next(0, 5), 0);
        c.refused("next(3, 0)", x, x.next(3, 0), 1);
        c.refused("next(-1, 0)", x, x.next(-1, 0), 1);
        c.refused("next(0, 7)", x, x.next(0, 7), 1);
        c.refused("next(0, -1)", x, x.next(0, -1), 1);
    }

    private static void unseens(Check c) {
        // A kill of n stands at c, a kill of m where m is, a kill of o at g.
        KillFollows x = c.told(RING + ";kill k by n far 0 worth 0;kill l by m far 0 worth 0;kill j by o far 0 worth 0");
        int[] ofM = {0, 1, -2, 3, 2, 1, -2};
        int[] ofN = {-2, 1, 0, 1, 2, 3, -2};
        for (int p = 0; p < 7; p++) {
            c.fine("unseen(0, " + p + ")", x, x.unseen(0, p), ofM[p]);
            c.due("unseen(1, " + p + ")", x.unseen(1, p), ofN[p]);
            c.due("unseen(2, " + p + ")", x.unseen(2, p), p == 6 ? 0 : -2);
        }
        x.take(0, 2);
        // It stands at g then: n has a way to c no more shut, but a is.
        c.due("unseen(0, 2) when it is taken away", x.unseen(0, 2), 2);
        // The first place may have another one's kill: both stand where m is.
        x.take(1, 1);
        x.step(1, 1);
        x.step(1, 0);
        c.due("kill(1, 4)", x.kill(1, 4), 0);
        c.due("unseen(0, 3) from where n's kill is", x.unseen(0, 3), 3);
        c.due("unseen(0, 0)", x.unseen(0, 0), 0);
        c.refused("unseen(3, 0)", x, x.unseen(3, 0), 1);
        c.refused("unseen(-1, 0)", x, x.unseen(-1, 0), 1);
        c.refused("unseen(0, 7)", x, x.unseen(0, 7), 1);
        c.refused("unseen(0, -1)", x, x.unseen(0, -1), 1);
    }

    private static void safes(Check c) {
        KillFollows x = c.told(RING + ";kill k by n far 0 worth 0;kill l by m far 0 worth 0");
        c.fine("safe(0)", x, x.safe(0), 1 + 2 + 8 + 16 + 32);
        c.due("safe(1)", x.safe(1), 2 + 4 + 8 + 16 + 32);
        c.due("safe(2)", x.safe(2), 64);
        x = c.told(RING.replace("n prince", "n sport") + ";walk n d;walk n e;walk n f;kill k by n far 1 worth 0;kill l by n far 0 worth 0;"
                + "kill j by n far 3 worth 0;kill i by n far 2 worth 0");
        c.due("safe(0) shut in by c, d, e, f", x.safe(0), 1 + 2);
        c.due("safe(1): his own don't see", x.safe(1), 63);
        x.light(4, true);
        c.due("kill(0, 4) out of the light", x.kill(0, 4), 3);
        c.due("safe(0) by e", x.safe(0), 1 + 2 + 16);
        c.refused("safe(3)", x, x.safe(3), 1);
        c.refused("safe(-1)", x, x.safe(-1), 1);
    }

    private static void cuts(Check c) {
        KillFollows x = c.told(RING);
        // From a to d: by b c, b e, f e: of two places the least bits are b and e (2 + 16).
        int[] ofM = {-2, -2, 2 + 8, 2 + 16, 2 + 32, -2, 0};
        int[] ofN = {2 + 8, -2, -2, -2, 2 + 8, 2 + 8, 0};
        for (int p = 0; p < 7; p++) {
            c.fine("cut(0, " + p + ")", x, x.cut(0, p), ofM[p]);
            c.due("cut(1, " + p + ")", x.cut(1, p), ofN[p]);
            c.due("cut(2, " + p + ")", x.cut(2, p), p == 6 ? -2 : 0);
        }
        c.refused("cut(3, 0)", x, x.cut(3, 0), 1);
        c.refused("cut(-1, 0)", x, x.cut(-1, 0), 1);
        c.refused("cut(0, 7)", x, x.cut(0, 7), 1);
        c.refused("cut(0, -1)", x, x.cut(0, -1), 1);
        // Five ways of two steps each.
        x = c.told("forest dies 0;place a dark holds 0;place b dark holds 0;place c dark holds 0;place d dark holds 0;"
                + "place e dark holds 0;place f dark holds 0;place g dark holds 0;man m sport at d;"
                + "path a d;path b d;path c d;path e d;path f d;path a g;path b g;path c g;path e g;path f g");
        c.due("cut(0, 6) of all five", x.cut(0, 6), 1 + 2 + 4 + 16 + 32);
        // Kills that stand there are no matter.
        x = c.told("forest dies 0;place a dark holds 0;place b dark holds 0;place c dark holds 0;path a b;path b c;"
                + "man m sport at a;man n prince at b;kill k by n far 0 worth 0");
        c.due("cut(0, 2)", x.cut(0, 2), 2);
    }

    private static void middles(Check c) {
        KillFollows x = c.told(RING);
        c.fine("middle(): g has nowhere to go", x, x.middle(), 6);
        x = c.told("forest dies 0;place a dark holds 0;place b dark holds 0;place c dark holds 0;place d dark holds 0;"
                + "path a b;path b c;path c d");
        c.due("middle() of a row of four: the first", x.middle(), 1);
        x = c.told("forest dies 0;place a dark holds 0;place b dark holds 0;place c dark holds 0;place d dark holds 0;"
                + "path a d;path b d;path c d");
        c.due("middle() of a star", x.middle(), 3);
        x = c.told("forest dies 0;place a dark holds 0;place b dark holds 0;place c dark holds 0;place d dark holds 0;"
                + "path a d;path b a;path c a");
        c.due("middle() of a star, the first", x.middle(), 0);
        x = c.told("forest dies 0;place a dark holds 0;place b dark holds 0;place c dark holds 0;path a b");
        c.due("middle(): nothing is nearer than one step", x.middle(), 2);
    }

    private static void partsOf(Check c) {
        KillFollows x = c.told(RING);
        c.fine("parts()", x, x.parts(), 2);
        x = c.told("forest dies 0;place a dark holds 0;place b dark holds 0;place c dark holds 0;place d dark holds 0;"
                + "place e dark holds 0");
        c.due("parts() without paths", x.parts(), 5);
        x = c.told("forest dies 0;place a dark holds 0;place b dark holds 0;place c dark holds 0;place d dark holds 0;"
                + "place e dark holds 0;path a e;path b d;path e c");
        c.due("parts()", x.parts(), 2);
    }

    private static void withoutForest(Check c) {
        KillFollows x = new KillFollows();
        c.refused("apart(0, 0)", x, x.apart(0, 0), 1);
        c.refused("next(0, 0)", x, x.next(0, 0), 1);
        c.refused("unseen(0, 0)", x, x.unseen(0, 0), 1);
        c.refused("safe(0)", x, x.safe(0), 1);
        c.refused("cut(0, 0)", x, x.cut(0, 0), 1);
        c.refused("middle()", x, x.middle(), 1);
        c.refused("parts()", x, x.parts(), 1);
    }
}
