/** Boundary cases of ACTS, UNDOING, IMAGES and what is told: TERMS IV, promises 47 to 52, 54 and 55. */
final class EdgesOfActs {
    // A row of seven places, m at the first; his kills follow him by far 0 and 1, n's STANDS where n is.
    private static final String ROW = Edges.row(7) + ";man m sport at a;man n prince at g;kill ka by m far 0 worth 0;kill kb by m far 1 worth 0;"
            + "kill kc by n far 0 worth 0";

    private EdgesOfActs() {
    }

    static void run(Edges e) {
        step(e);
        take(e);
        light(e);
        acts(e);
        kept(e);
        undo(e);
        imagesUpToThree(e);
        image(e);
        back(e);
        size(e);
        troubles(e);
        trouble(e);
        constants(e);
    }

    private static void step(Edges e) {
        e.says(47, "STEP: kills that STAND elsewhere than ahead of it, as bits.");
        e.answers(ROW, "step(0, 1): the one without a step between", 1, x -> x.step(0, 1));
        e.answers(ROW, "step(0, 0): he stays, and all do", 0, x -> x.step(0, 0));
        e.answers(ROW, "step(1, 5): another one's", 4, x -> x.step(1, 5));
        KillFollows x = e.told(ROW);
        x.step(0, 1);
        e.due("step(0, 1): he stays, but one comes nearer", x.step(0, 1), 2);
        e.due("step(0, 2): the other one is behind him", x.step(0, 2), 1);
        e.due("step(0, 3): both", x.step(0, 3), 3);
        e.answers(Edges.BARE + ";man m sport at a", "step(0, 0) without kills", 0, y -> y.step(0, 0));
        e.answers(Edges.row(2) + ";man m prince at a" + EdgesOfNow.kills(6, "m", 3), "step(0, 1): all six", 63, y -> y.step(0, 1));
        // From somewhere to nowhere, and from nowhere to somewhere, is elsewhere.
        String last = "forest dies 0;place a dark holds 0;place b lit holds 0;path a b;man m prince at a;kill k by m far 0 worth 0";
        x = e.told(last);
        for (int i = 1; i <= 7; i++) {
            e.due("step(0, 1), so many as the TRAIL is long: " + i, x.step(0, 1), 0);
        }
        e.due("step(0, 1): out of the TRAIL", x.step(0, 1), 1);
        e.due("kill(0, 4)", x.kill(0, 4), -2);
        e.due("step(0, 1): nowhere as ahead of it", x.step(0, 1), 0);
        e.due("step(0, 0): somewhere again", x.step(0, 0), 1);

        e.says(47, "NONE: 1; 5 (no NEIGHBOUR, nor where he is).");
        // In FULL the first place is where the first man is and a NEIGHBOUR of the last one's; the last place is a NEIGHBOUR, too.
        e.noSuch("step(.., 0)", Edges.FULL_MEN, (y, i) -> y.step(i, 0));
        e.noSuch("step(0, ..)", Edges.FULL_PLACES, (y, i) -> y.step(0, i));
        e.noneInBare("step(.., 0)", (y, i) -> y.step(i, 0));
        for (int p = 2; p < 7; p++) {
            int far = p;
            e.refuses(ROW, "step(0, " + p + "): no NEIGHBOUR", 5, y -> y.step(0, far));
        }
        e.refuses(Edges.alone(2) + ";man m sport at a", "step(0, 1) without a path", 5, y -> y.step(0, 1));
        e.refuses(ROW, "step(2, 7): both wrong", 1, y -> y.step(2, 7));
    }

    private static void take(Edges e) {
        e.says(48, "TAKE: where it STANDS then (-2 nowhere).");
        e.answers(ROW, "take(0, 1)", 6, x -> x.take(0, 1));
        e.answers(ROW, "take(2, 0)", 0, x -> x.take(2, 0));
        e.answers(ROW.replace("place g dark", "place g lit"), "take(0, 1): nowhere", -2, x -> x.take(0, 1));
        KillFollows x = e.told(ROW.replace("place g dark", "place g lit"));
        e.due("kill(2, 4): nowhere", x.kill(2, 4), -2);
        e.due("take(2, 0): somewhere", x.take(2, 0), 0);

        e.says(48, "NONE: 1; 5 (it follows him).");
        // In FULL the first kill and the last don't follow the second man, nor does the third follow the first or the last.
        e.noSuch("take(.., 1)", Edges.FULL_KILLS, (y, i) -> y.take(i, 1));
        e.noSuch("take(2, ..)", Edges.FULL_MEN, (y, i) -> y.take(2, i));
        e.noneInBare("take(.., 0)", (y, i) -> y.take(i, 0));
        e.refuses(ROW, "take(0, 0): it follows him", 5, y -> y.take(0, 0));
        e.refuses(ROW + ";taken ka n", "take(0, 1): it follows him as told", 5, y -> y.take(0, 1));
        e.answers(ROW + ";taken ka n", "take(0, 0): he SHOT it, but it doesn't", 0, y -> y.take(0, 0));
        x = e.told(ROW);
        x.take(0, 1);
        e.due("take(0, 1), again", x.take(0, 1), -1);
        e.due("trouble()", x.trouble(), 5);
        e.due("size(9): one ACT", x.size(9), 1);
    }

    private static void light(Edges e) {
        e.says(49, "LIGHT (or put out, not is): true; false: 1; 5 (it is so).");
        e.answers(ROW, "light(0, true)", 1, x -> Edges.bit(x.light(0, true)));
        e.answers(ROW.replace("dark", "lit"), "light(0, false)", 1, x -> Edges.bit(x.light(0, false)));
        e.refuses(ROW, "light(0, false): it is so", 0, 5, x -> Edges.bit(x.light(0, false)));
        e.refuses(ROW.replace("dark", "lit"), "light(0, true): it is so", 0, 5, x -> Edges.bit(x.light(0, true)));
        e.noSuch("light(.., true)", Edges.FULL_PLACES, 0, (x, i) -> Edges.bit(x.light(i, true)));
        for (int p : new int[] {-1, 1, 31, 32, Edges.LEAST, Edges.MOST}) {
            e.refuses(Edges.BARE, "light(" + p + ", false)", 0, 1, x -> Edges.bit(x.light(p, false)));
        }
        KillFollows x = e.told(ROW);
        x.light(0, true);
        e.due("kill(0, 4): out of the light", x.kill(0, 4), -2);
        x.light(0, false);
        e.due("kill(0, 4): put out", x.kill(0, 4), 0);
        e.due("size(9): two ACTS", x.size(9), 2);
    }

    private static void acts(Edges e) {
        e.says(0, "ACTS: STEP, TAKE (a kill follows another man), LIGHT a place, or put it out.");
        KillFollows x = e.told(ROW);
        Edges.Call[] acts = {y -> y.step(0, 0), y -> y.take(0, 1), y -> Edges.bit(y.light(0, true)), y -> Edges.bit(y.light(0, false))};
        for (int i = 0; i < 4; i++) {
            acts[i].of(x);
            e.due("size(9) behind ACT " + i, x.size(9), i + 1);
        }
        // All else is no ACT.
        x.follows(0, 2, 1);
        x.lureRow(0, 5);
        x.rambles(0, 0, 60);
        x.meet(0, 60);
        x.image();
        x.forest(0);
        e.due("size(9) behind other calls", x.size(9), 4);
    }

    private static void kept(Edges e) {
        e.says(0, "UNDO: the latest (16 are kept).");
        KillFollows x = e.told(ROW);
        String[] states = new String[18];
        for (int i = 0; i < 18; i++) {
            states[i] = lamps(x);
            x.light(i % 7, x.place(i % 7, 0) == 0);
            e.due("size(9) behind " + (i + 1) + " ACTS", x.size(9), Math.min(i + 1, 16));
        }
        for (int i = 17; i >= 2; i--) {
            e.due("undo() of ACT " + i, x.undo(), true);
            e.due("lamps as ahead of ACT " + i, lamps(x).equals(states[i]), true);
            e.due("size(9)", x.size(9), i - 2);
        }
        e.due("undo() of a seventeenth", x.undo(), false);
        e.due("trouble()", x.trouble(), 6);
        e.due("lamps as ahead of ACT 2", lamps(x).equals(states[2]), true);
        // Behind as many undone, sixteen more are kept.
        for (int i = 0; i < 16; i++) {
            x.step(1, 6);
        }
        e.due("size(9)", x.size(9), 16);
        for (int i = 0; i < 16; i++) {
            e.due("undo() of " + i, x.undo(), true);
        }
        e.due("undo() of none", x.undo(), false);
    }

    private static String lamps(KillFollows x) {
        StringBuilder lamps = new StringBuilder();
        for (int p = 0; p < x.size(1); p++) {
            lamps.append(x.place(p, 0));
        }
        return lamps.toString();
    }

    private static void undo(Edges e) {
        e.says(50, "UNDO: true; false: 6.");
        e.refuses(Edges.NO_FOREST, "undo()", 0, 6, x -> Edges.bit(x.undo()));
        e.refuses(Edges.FULL, "undo() of nothing: what was told stays", 0, 6, x -> Edges.bit(x.undo()));
        Edges.Call[] acts = {x -> x.step(0, 1), x -> x.step(0, 0), x -> x.take(0, 1), x -> Edges.bit(x.light(0, true))};
        for (int i = 0; i < acts.length; i++) {
            KillFollows x = e.told(ROW);
            String ahead = Edges.state(x);
            acts[i].of(x);
            e.due("ACT " + i + " is seen", Edges.state(x).equals(ahead), false);
            x.place(-1, 0);
            e.due("undo() of ACT " + i, x.undo(), true);
            e.due("trouble()", x.trouble(), 0);
            e.due("all is as ahead of ACT " + i, Edges.state(x).equals(ahead), true);
            e.due("undo() again", x.undo(), false);
            e.due("trouble()", x.trouble(), 6);
        }
        // A refused ACT is none: what is undone is the one ahead of it.
        KillFollows x = e.told(ROW);
        x.step(0, 1);
        x.step(0, 6);
        x.take(0, 0);
        x.light(0, false);
        e.due("undo() behind refused ones", x.undo(), true);
        e.due("man(0, 1)", x.man(0, 1), 0);
        e.due("undo() of nothing", x.undo(), false);
        // The end of the TRAIL comes back, too.
        x = e.told(ROW);
        int[] way = {1, 2, 3, 4, 5, 6, 5, 5, 4, 3, 2, 2};
        String[] states = new String[way.length];
        for (int i = 0; i < way.length; i++) {
            states[i] = Edges.state(x);
            x.step(0, way[i]);
        }
        for (int i = way.length - 1; i >= 0; i--) {
            e.due("undo() of STEP " + i, x.undo(), true);
            e.due("the TRAIL as ahead of STEP " + i, Edges.state(x).equals(states[i]), true);
        }
    }

    private static void imagesUpToThree(Edges e) {
        e.says(0, "IMAGES: up to 3; gone back to one, nothing can be undone.");
        KillFollows x = e.told(ROW);
        for (int i = 0; i < 3; i++) {
            x.step(0, i);
            e.due("image()", x.image(), i);
        }
        e.due("image(), a fourth", x.image(), -1);
        e.due("size(9): ACTS can be undone", x.size(9), 3);
        e.due("back(2)", x.back(2), true);
        e.due("size(9): gone back", x.size(9), 0);
        e.due("undo()", x.undo(), false);
        e.due("trouble()", x.trouble(), 6);
        x.step(0, 1);
        e.due("size(9): an ACT behind it", x.size(9), 1);
        e.due("undo()", x.undo(), true);
        e.due("undo() of what was ahead", x.undo(), false);
    }

    private static void image(Edges e) {
        e.says(51, "An IMAGE: its number. NONE: 1 (no FOREST); 3.");
        e.refuses(Edges.NO_FOREST, "image()", 1, KillFollows::image);
        e.answers(Edges.BARE, "image(), the first", 0, KillFollows::image);
        KillFollows x = e.told(ROW);
        x.image();
        x.image();
        x.place(-1, 0);
        e.due("image(), the third", x.image(), 2);
        e.due("trouble()", x.trouble(), 0);
        for (int i = 0; i < 2; i++) {
            e.due("image(), no room", x.image(), -1);
            e.due("trouble()", x.trouble(), 3);
            e.due("size(10)", x.size(10), 3);
        }
        // The refused one didn't change the last.
        x = e.told(ROW);
        x.image();
        x.image();
        x.image();
        x.step(0, 1);
        x.image();
        x.back(2);
        e.due("man(0, 1) by the third", x.man(0, 1), 0);
        e.due("image() behind back(): all stay", x.image(), -1);
    }

    private static void back(Edges e) {
        e.says(52, "All is as by an IMAGE (all IMAGES stay): true; false: 1.");
        e.refuses(Edges.NO_FOREST, "back(0)", 0, 1, x -> Edges.bit(x.back(0)));
        for (int i : new int[] {-1, 0, Edges.LEAST, Edges.MOST}) {
            e.refuses(Edges.FULL, "back(" + i + ") without IMAGES", 0, 1, x -> Edges.bit(x.back(i)));
        }
        KillFollows x = e.told(ROW);
        String[] states = new String[3];
        Edges.Call[] acts = {y -> y.step(0, 1), y -> y.take(1, 1), y -> Edges.bit(y.light(6, true))};
        for (int i = 0; i < 3; i++) {
            acts[i].of(x);
            states[i] = seen(x);
            x.image();
        }
        for (int i : new int[] {-1, 3, Edges.LEAST, Edges.MOST}) {
            x.forest(-1);
            e.due("back(" + i + ") of three", x.back(i), false);
            e.due("trouble()", x.trouble(), 1);
            e.due("nothing changes", seen(x).equals(states[2]), true);
        }
        for (int i : new int[] {0, 2, 1, 1, 0}) {
            x.step(1, 6);
            x.place(-1, 0);
            e.due("back(" + i + ")", x.back(i), true);
            e.due("trouble()", x.trouble(), 0);
            e.due("all is as by it", seen(x).equals(states[i]), true);
            e.due("size(10)", x.size(10), 3);
        }
        e.due("size(8), as by the first", x.size(8), 1);
    }

    /** What an IMAGE keeps: all but how many ACTS can be undone, and how many IMAGES there are. */
    private static String seen(KillFollows x) {
        String[] all = Edges.state(x).split(" ");
        all[9] = "";
        all[10] = "";
        return String.join(" ", all);
    }

    private static void size(Edges e) {
        e.says(54, "0 dies, 1 places, 2 paths, 3 men, 4 kills, 5 strays, 6 walks as told, 7 takings as told, 8 STEPS by ACTS so far, "
                + "9 ACTS that can be undone, 10 IMAGES, 11 bytes of THE TAPE.");
        int[] most = {100, 7, 10, 4, 6, 3, 12, 6, 0, 0, 0, 0};
        KillFollows full = e.told(Edges.FULL);
        for (int what = 0; what <= 11; what++) {
            e.due("size(" + what + ") of FULL", full.size(what), most[what]);
        }
        for (int i = 0; i < 20; i++) {
            full.step(0, 0);
        }
        full.take(0, 1);
        full.light(0, true);
        full.image();
        e.due("size(6) is what was told", full.size(6), 12);
        e.due("size(7) is what was told", full.size(7), 6);
        e.due("size(8): TAKE and LIGHT are no STEPS", full.size(8), 20);
        e.due("size(9)", full.size(9), 16);
        e.due("size(10)", full.size(10), 1);
        for (int i = 0; i < 45; i++) {
            full.feed(0, 0, 0, 0, 0);
        }
        e.due("size(11), the most", full.size(11), 900);

        e.says(54, "NONE for others; 0 for what there isn't.");
        for (String text : new String[] {Edges.NO_FOREST, Edges.BARE, Edges.FULL}) {
            KillFollows x = e.told(text);
            for (int what : new int[] {-1, 12, Edges.LEAST, Edges.MOST}) {
                e.due("size(" + what + ")", x.size(what), -1);
            }
        }
        KillFollows x = new KillFollows();
        KillFollows bare = e.told(Edges.BARE);
        for (int what = 0; what <= 11; what++) {
            e.due("size(" + what + ") without a FOREST", x.size(what), 0);
            e.due("size(" + what + ") of BARE", bare.size(what), what == 1 ? 1 : 0);
        }
        bare.place(-1, 0);
        bare.size(12);
        e.due("trouble(): no number is told of size", bare.trouble(), 1);
    }

    private static void troubles(Edges e) {
        e.says(0, "TROUBLE of the latest call that may be refused (those of which a number is told here): 0 it wasn't; 1 there is none such; "
                + "2 a number; 3 no room; 4 a FAULT; 5 not so; 6 there is none.");
        KillFollows x = e.told(ROW);
        e.due("0", x.trouble(), 0);
        x.place(7, 0);
        e.due("1", x.trouble(), 1);
        x.trail(0, 8);
        e.due("2", x.trouble(), 2);
        x.image();
        x.image();
        x.image();
        e.due("0 again", x.trouble(), 0);
        x.image();
        e.due("3", x.trouble(), 3);
        x.forest(0);
        e.due("4", x.trouble(), 4);
        x.step(0, 6);
        e.due("5", x.trouble(), 5);
        x.undo();
        e.due("6", x.trouble(), 6);
        // Calls of which no number is told leave it, whatever they answer.
        x.feed(0, 0, 0, 0, 0);
        x.fault();
        x.where();
        x.size(99);
        x.trouble();
        Edges.led(x, 0);
        e.due("6 still", x.trouble(), 6);
        x.crowded();
        e.due("0 behind a call that wasn't refused", x.trouble(), 0);
    }

    private static void trouble(Edges e) {
        e.says(55, "`int trouble()`: TROUBLE.");
        KillFollows x = new KillFollows();
        e.due("trouble() of a new one", x.trouble(), 0);
        x.undo();
        e.due("trouble()", x.trouble(), 6);
        e.due("trouble(), again", x.trouble(), 6);
        Check.tell(x, Edges.BARE);
        e.due("trouble() of a FOREST", x.trouble(), 0);
    }

    private static void constants(Edges e) {
        e.says(0, "The constants: `NONE = -1`: There is none; refused.");
        e.due("NONE", KillFollows.NONE, -1);
    }
}
