/** Promises 6 to 13 and 53: what is where now. */
public final class NowTest {
    // Six walks of sid, so that his trail is longer than the row of places he was at.
    private static final String LONG = "forest dies 0;place a dark holds 0;place b lit holds 1;place c dark holds 2;"
            + "path a b;path b c;path a c;"
            + "man sid sport at a;man kim keeper at a;man pat poacher at a;man max prince at a;"
            + "walk sid b;walk sid c;walk sid b;walk pat c;walk pat b;"
            + "kill ka by sid far 0 worth 1;kill kb by sid far 1 worth 2;kill kc by sid far 2 worth 3;"
            + "kill kd by kim far 3 worth 4;kill ke by pat far 0 worth 5;kill kf by max far 3 worth 6";

    public static void main(String[] args) {
        Check c = new Check("NowTest");
        places(c);
        men(c);
        kills(c);
        trails(c);
        crowds(c);
        leaders(c);
        nears(c);
        rooms(c);
        leds(c);
        withoutForest(c);
        c.end();
    }

    private static void places(Check c) {
        KillFollows x = c.told(Check.SHARED);
        int[][] due = {
            {1, 1, 2, 1, 0, 0},
            {0, 2, 13, 10, 1, 0},
            {0, 1, 10, 0, 0, 0},
            {0, 9, 6, 0, 2, 0},
            {0, 0, 0, 4, 8, 1}};
        for (int p = 0; p < 5; p++) {
            for (int what = 0; what < 6; what++) {
                c.fine("place(" + p + ", " + what + ")", x, x.place(p, what), due[p][what]);
            }
        }
        c.refused("place(5, 0)", x, x.place(5, 0), 1);
        c.refused("place(-1, 0)", x, x.place(-1, 0), 1);
        c.refused("place(0, 6)", x, x.place(0, 6), 1);
        c.refused("place(0, -1)", x, x.place(0, -1), 1);
        c.refused("place(MAX, MIN)", x, x.place(Integer.MAX_VALUE, Integer.MIN_VALUE), 1);
    }

    private static void men(Check c) {
        KillFollows x = c.told(Check.SHARED);
        int[][] due = {{0, 0, 3, 12, 3}, {1, 1, 4, 2, 4}, {2, 4, 8, 4, 0}, {3, 1, 0, 0, 8}};
        for (int m = 0; m < 4; m++) {
            for (int what = 0; what < 5; what++) {
                c.fine("man(" + m + ", " + what + ")", x, x.man(m, what), due[m][what]);
            }
        }
        c.refused("man(4, 0)", x, x.man(4, 0), 1);
        c.refused("man(-1, 0)", x, x.man(-1, 0), 1);
        c.refused("man(0, 5)", x, x.man(0, 5), 1);
        c.refused("man(0, -1)", x, x.man(0, -1), 1);
    }

    private static void kills(Check c) {
        KillFollows x = c.told(Check.SHARED);
        int[][] due = {{0, 0, 1, 3, 1, 1}, {0, 0, 3, 9, 3, 3}, {1, 1, 0, 2, -2, 1}, {3, 2, 2, 4, 4, 4}};
        for (int k = 0; k < 4; k++) {
            for (int what = 0; what < 6; what++) {
                c.fine("kill(" + k + ", " + what + ")", x, x.kill(k, what), due[k][what]);
            }
        }
        c.refused("kill(4, 0)", x, x.kill(4, 0), 1);
        c.refused("kill(-1, 0)", x, x.kill(-1, 0), 1);
        c.refused("kill(0, 6)", x, x.kill(0, 6), 1);
        c.refused("kill(0, -1)", x, x.kill(0, -1), 1);
        // sid's trail is b c b a a ..: out of the light at b a kill stands one further behind.
        x = c.told(LONG);
        int[] stands = {2, 2, 0, 0, 2, 0};
        int[] behind = {0, 1, 2, 4, 0, 0};
        for (int k = 0; k < 6; k++) {
            c.due("kill(" + k + ", 4) of LONG", x.kill(k, 4), stands[k]);
            c.due("kill(" + k + ", 5) of LONG", x.kill(k, 5), behind[k]);
        }
    }

    private static void trails(Check c) {
        KillFollows x = c.told(Check.SHARED);
        int[][] due = {{0, 1, 2, 3, 3, 3, 3, 3}, {1, 0, 0, 0, 0, 0, 0, 0}, {4, 4, 4, 4, 4, 4, 4, 4},
            {1, 1, 1, 1, 1, 1, 1, 1}};
        for (int m = 0; m < 4; m++) {
            for (int ago = 0; ago < 8; ago++) {
                c.fine("trail(" + m + ", " + ago + ")", x, x.trail(m, ago), due[m][ago]);
            }
        }
        c.refused("trail(4, 0)", x, x.trail(4, 0), 1);
        c.refused("trail(4, 8)", x, x.trail(4, 8), 1);
        c.refused("trail(-1, 0)", x, x.trail(-1, 0), 1);
        c.refused("trail(0, 8)", x, x.trail(0, 8), 2);
        c.refused("trail(0, -1)", x, x.trail(0, -1), 2);
        // Twelve walks: the first five places are forgotten.
        StringBuilder text = new StringBuilder("forest dies 0;place a dark holds 0;place b lit holds 0;place c lit holds 0;"
                + "path a b;path b c;man m prince at a");
        for (int i = 0; i < 12; i++) {
            text.append(i % 2 == 0 ? ";walk m b" : ";walk m c");
        }
        x = c.told(text + ";kill k by m far 0 worth 0");
        c.due("trail(0, 0)", x.trail(0, 0), 2);
        c.due("trail(0, 7)", x.trail(0, 7), 1);
        c.due("kill(0, 4): what is dark is out of the TRAIL", x.kill(0, 4), -2);
        // Seven walks: the place where he was told to be is the last of the TRAIL.
        x = c.told("forest dies 0;place a dark holds 0;place b lit holds 0;place c lit holds 0;path a b;path b c;"
                + "man m prince at a;walk m b;walk m c;walk m b;walk m c;walk m b;walk m c;walk m b;"
                + "kill k by m far 3 worth 0");
        c.due("trail(0, 7)", x.trail(0, 7), 0);
        c.due("kill(0, 4): the last of the TRAIL", x.kill(0, 4), 0);
    }

    private static void crowds(Check c) {
        KillFollows x = c.told(Check.SHARED);
        c.fine("crowded()", x, x.crowded(), 16);
        x = c.told(LONG);
        // At a (holds 0) stand kc, kd and kf; at c (holds 2) ka, kb and ke.
        c.due("place(0, 4)", x.place(0, 4), 4 + 8 + 32);
        c.due("place(2, 4)", x.place(2, 4), 1 + 2 + 16);
        c.due("crowded()", x.crowded(), 1 + 4);
        c.due("take(4, 3)", x.take(4, 3), 0);
        c.due("crowded(): as many as it holds", x.crowded(), 1);
        c.due("place(2, 5): as many as it holds", x.place(2, 5), 0);
        c.due("place(0, 5)", x.place(0, 5), 1);
    }

    private static void leaders(Check c) {
        KillFollows x = c.told(Check.SHARED);
        c.fine("leader()", x, x.leader(), 0);
        x.take(0, 2);
        c.due("leader() by then", x.leader(), 2);
        x.take(2, 3);
        x.take(3, 3);
        c.due("leader() by then", x.leader(), 3);
        x.take(3, 0);
        c.due("leader(): the first of like ones", x.leader(), 0);
        x = c.told("forest dies 0;place a dark holds 0;man m sport at a;man n sport at a");
        c.due("leader() without kills", x.leader(), 0);
        x = c.told("forest dies 0;place a dark holds 0");
        c.fine("leader() without men", x, x.leader(), -2);
    }

    private static void nears(Check c) {
        KillFollows x = c.told(Check.SHARED);
        int[] due = {1, 3, 8, 3};
        for (int m = 0; m < 4; m++) {
            c.fine("near(" + m + ")", x, x.near(m), due[m]);
        }
        c.refused("near(4)", x, x.near(4), 1);
        c.refused("near(-1)", x, x.near(-1), 1);
    }

    private static void rooms(Check c) {
        KillFollows x = c.told(Check.SHARED);
        c.fine("room()", x, x.room(), 10);
        x.light(0, false);
        // coot and nothing else stands at the lodge then: hare stays at the lawn.
        c.due("kill(2, 4)", x.kill(2, 4), 0);
        c.due("room() with the lodge dark and full", x.room(), 10);
        x.light(3, true);
        c.due("room() with the wood lit", x.room(), 2);
        x = c.told(LONG);
        c.due("room() of crowded places", x.room(), 0);
        x = c.told("forest dies 0;place a dark holds 3;place b dark holds 4;place c lit holds 5;man m prince at a;"
                + "kill k by m far 0 worth 0");
        c.due("room() of the first and the second", x.room(), 2 + 4);
    }

    private static void leds(Check c) {
        KillFollows x = c.told(Check.SHARED);
        c.due("led(0)", led(x, 0), 2);
        c.due("led(1)", led(x, 1), -9);
        c.due("led(-1)", led(x, -1), -9);
        c.due("led(MIN)", led(x, Integer.MIN_VALUE), -9);
        x.light(4, true);
        c.due("led(0)", led(x, 0), 2);
        c.due("led(1)", led(x, 1), 3);
        c.due("led(2)", led(x, 2), -9);
        x.undo();
        x.undo();
        c.due("trouble() is none of led's: ahead", x.trouble(), 6);
        c.due("led(5)", led(x, 5), -9);
        KillFollows y = c.told(LONG);
        y.light(0, true);
        y.light(2, true);
        for (int i = 0; i < 6; i++) {
            c.due("led(" + i + ") of all", led(y, i), i);
        }
        c.due("led(6) of all", led(y, 6), -9);
        c.due("trouble() is none of led's", x.trouble(), 6);
        c.due("led(0) of a new one", led(new KillFollows(), 0), -9);
    }

    private static int led(KillFollows x, int i) {
        try {
            return x.led(i);
        } catch (java.util.NoSuchElementException e) {
            return -9;
        }
    }

    private static void withoutForest(Check c) {
        KillFollows x = new KillFollows();
        c.refused("place(0, 0)", x, x.place(0, 0), 1);
        c.refused("man(0, 0)", x, x.man(0, 0), 1);
        c.refused("kill(0, 0)", x, x.kill(0, 0), 1);
        c.refused("trail(0, 9)", x, x.trail(0, 9), 1);
        c.refused("crowded()", x, x.crowded(), 1);
        c.refused("leader()", x, x.leader(), 1);
        c.refused("near(0)", x, x.near(0), 1);
        c.refused("room()", x, x.room(), 1);
    }
}
