/** Boundary cases of where men are and kills STAND: TERMS II, promises 6 to 13 and 53. */
final class EdgesOfNow {
    // Seven places around the first one: it has all the NEIGHBOURS that there can be.
    private static final String STAR = Edges.alone(7) + ";path a b;path a c;path a d;path a e;path a f;path a g";
    // Places that hold so many, one man at a whom six kills follow without a step between.
    private static final String HEAP = "forest dies 0;place a dark holds 0;place b lit holds 9;place c dark holds 9;path a b;path b c;"
            + "man m prince at a";

    private EdgesOfNow() {
    }

    static void run(Edges e) {
        trails(e);
        steps(e);
        behind(e);
        outOfTheLight(e);
        crowds(e);
        place(e);
        man(e);
        kill(e);
        trail(e);
        crowded(e);
        leader(e);
        near(e);
        room(e);
        led(e);
    }

    /** So many kills of a man, by the letters from b on, all worth 20. */
    static String kills(int n, String man, int far) {
        StringBuilder text = new StringBuilder();
        for (int k = 0; k < n; k++) {
            text.append(";kill k").append((char) ('b' + k)).append(" by ").append(man).append(" far ").append(far).append(" worth 20");
        }
        return text.toString();
    }

    private static void trails(Edges e) {
        e.says(0, "TRAIL of a man: where he is NOW (0), was one STEP ago (1) .. seven (7); ahead of his first STEP: where he was told to be.");
        String row = Edges.row(7) + ";man m sport at g";
        for (int ago = 0; ago <= 7; ago++) {
            int then = ago;
            e.answers(row, "trail(0, " + ago + ") ahead of his first STEP", 6, x -> x.trail(0, then));
            e.answers(row + ";walk m f", "trail(0, " + ago + ") behind one", ago == 0 ? 5 : 6, x -> x.trail(0, then));
        }
        // Seven walks: the place where he was told to be is the last one kept; the eighth drops it.
        String seven = Edges.row(7) + ";path g a;man m sport at g;walk m f;walk m e;walk m d;walk m c;walk m b;walk m a;walk m b";
        int[] due = {1, 0, 1, 2, 3, 4, 5, 6};
        for (int ago = 0; ago <= 7; ago++) {
            int then = ago;
            e.answers(seven, "trail(0, " + ago + ") behind seven", due[ago], x -> x.trail(0, then));
            e.answers(seven + ";walk m c", "trail(0, " + ago + ") behind eight", ago == 0 ? 2 : due[ago - 1], x -> x.trail(0, then));
        }
        // Staying is a STEP too.
        KillFollows x = e.told(row + ";walk m f");
        x.step(0, 5);
        e.due("trail(0, 1) when he stayed", x.trail(0, 1), 5);
        e.due("trail(0, 2) when he stayed", x.trail(0, 2), 6);
    }

    private static void steps(Edges e) {
        e.says(0, "A STEP: a man goes to a NEIGHBOUR, or stays where he is.");
        String text = Edges.row(3) + ";man m sport at b";
        for (int p : new int[] {0, 1, 2}) {
            e.answers(text, "step(0, " + p + ")", 0, x -> x.step(0, p));
        }
        e.refuses(text.replace("sport at b", "sport at a"), "step(0, 2): two steps away", 5, x -> x.step(0, 2));
        // Paths go both ways.
        e.answers(Edges.alone(2) + ";path b a;man m sport at a", "step(0, 1) by a path the other way", 0, x -> x.step(0, 1));
    }

    private static void behind(Edges e) {
        e.says(0, "A kill follows so many STEPS behind as far tells (a poacher: twice; a keeper: one more; a prince: none)");
        String[] kinds = {"sport", "keeper", "poacher", "prince"};
        int[][] due = {{0, 1, 2, 3}, {1, 2, 3, 4}, {0, 2, 4, 6}, {0, 0, 0, 0}};
        for (int kind = 0; kind < 4; kind++) {
            for (int far = 0; far <= 3; far++) {
                String text = Edges.row(7) + ";man m " + kinds[kind] + " at g;walk m f;walk m e;walk m d;walk m c;walk m b;walk m a"
                        + kills(1, "m", far);
                e.answers(text, kinds[kind] + ", far " + far + ": STEPS behind", due[kind][far], x -> x.kill(0, 5));
                // So many STEPS ago he was at the place of that number.
                e.answers(text, kinds[kind] + ", far " + far + ": STANDS", due[kind][far], x -> x.kill(0, 4));
            }
        }
    }

    private static void outOfTheLight(Edges e) {
        e.says(0, "if it is lit, at the next one further behind that is dark, of the TRAIL; if there is none, nowhere.");
        String text = Edges.row(7) + ";man m sport at g;walk m f;walk m e;walk m d;walk m c;walk m b;walk m a" + kills(1, "m", 1);
        for (int lit = 0; lit <= 7; lit++) {
            KillFollows x = e.told(text);
            for (int p = 0; p < lit; p++) {
                x.light(p, true);
            }
            e.due("kill(0, 4) with the first " + lit + " lit", x.kill(0, 4), lit < 2 ? 1 : lit < 7 ? lit : -2);
        }
        // A dark place nearer to him than it should follow is no matter.
        KillFollows x = e.told(text);
        for (int p = 1; p < 7; p++) {
            x.light(p, true);
        }
        e.due("kill(0, 4) with only his own place dark", x.kill(0, 4), -2);
        // The last of the TRAIL counts, what is behind it doesn't.
        String far = "forest dies 0;place a dark holds 9;place b lit holds 9;place c lit holds 9;path a b;path b c;man m prince at a";
        String seven = far + ";walk m b;walk m c;walk m b;walk m c;walk m b;walk m c;walk m b" + kills(1, "m", 0);
        e.answers(seven, "kill(0, 4), seven behind", 0, y -> y.kill(0, 4));
        e.answers(seven + ";walk m c", "kill(0, 4), eight behind", -2, y -> y.kill(0, 4));
    }

    private static void crowds(Edges e) {
        e.says(0, "A place is CROWDED if more kills STAND there than it holds.");
        for (int holds = 0; holds <= 9; holds++) {
            for (int n = 0; n <= 6; n++) {
                boolean more = n > holds;
                e.answers(HEAP.replace("holds 0", "holds " + holds) + kills(n, "m", 0), n + " where " + holds + " are held",
                        Edges.bit(more), x -> x.place(0, 5));
            }
        }

        e.says(0, "(SHOT by: as told first, whoever takes it.)");
        String two = Edges.BARE + ";man m sport at a;man n sport at a;kill k by m far 0 worth 0;taken k n";
        e.answers(two, "kill(0, 0) taken in the text", 0, x -> x.kill(0, 0));
        KillFollows x = e.told(two + ";taken k m");
        x.take(0, 1);
        e.due("kill(0, 0) taken by an ACT", x.kill(0, 0), 0);
        e.due("kill(0, 1)", x.kill(0, 1), 1);
    }

    private static void place(Edges e) {
        e.says(6, "Of a place 0 1 if it is lit NOW, 1 how many it holds, 2 NEIGHBOURS, as bits, 3 men there, as bits, 4 kills that STAND there, as bits, "
                + "5 1 if it is CROWDED.");
        e.answers(Edges.BARE, "dark", 0, x -> x.place(0, 0));
        KillFollows lamp = e.told(Edges.BARE);
        lamp.light(0, true);
        e.due("lit NOW", lamp.place(0, 0), 1);
        lamp.light(0, false);
        e.due("put out NOW", lamp.place(0, 0), 0);
        e.answers(STAR, "NEIGHBOURS: all six", 126, x -> x.place(0, 2));
        e.answers(STAR, "NEIGHBOURS: the first one", 1, x -> x.place(6, 2));
        e.answers(Edges.BARE, "NEIGHBOURS: none", 0, x -> x.place(0, 2));
        e.answers(Edges.FULL, "men: one of four", 1, x -> x.place(0, 3));
        e.answers(Edges.BARE, "men: none", 0, x -> x.place(0, 3));
        e.answers(Edges.BARE + ";man m sport at a;man n sport at a;man o sport at a;man q sport at a", "men: all four", 15,
                x -> x.place(0, 3));
        e.answers(HEAP, "kills: none", 0, x -> x.place(0, 4));
        e.answers(HEAP + kills(6, "m", 3), "kills: all six", 63, x -> x.place(0, 4));
        e.answers(HEAP + kills(6, "m", 3), "kills: none elsewhere", 0, x -> x.place(2, 4));
        e.answers(HEAP, "CROWDED: none where none is held", 0, x -> x.place(0, 5));
        e.answers(HEAP + kills(1, "m", 3), "CROWDED: one where none is held", 1, x -> x.place(0, 5));

        e.says(6, "NONE: 1.");
        e.noSuch("place(.., 0)", Edges.FULL_PLACES, (x, i) -> x.place(i, 0));
        e.noSuch("place(0, ..)", 6, (x, i) -> x.place(0, i));
        e.refuses(Edges.BARE, "place(1, 0) of one", 1, x -> x.place(1, 0));
    }

    private static void man(Edges e) {
        e.says(7, "Of a man 0 KIND (0 sport, 1 keeper, 2 poacher, 3 prince), 1 where he is, 2 kills that follow him, as bits, 3 their worth, "
                + "4 kills he SHOT, as bits.");
        for (int m = 0; m < 4; m++) {
            int who = m;
            e.answers(Edges.FULL, "KIND", m, x -> x.man(who, 0));
            e.answers(Edges.FULL, "where he is", m, x -> x.man(who, 1));
        }
        e.answers(Edges.alone(7) + ";man m sport at g", "where he is, the last place", 6, x -> x.man(0, 1));
        String one = HEAP + ";man n sport at a";
        e.answers(one + kills(6, "m", 0), "kills that follow him: all six", 63, x -> x.man(0, 2));
        e.answers(one + kills(6, "m", 0), "kills that follow him: none", 0, x -> x.man(1, 2));
        e.answers(one + kills(6, "m", 0), "their worth: all that there can be", 120, x -> x.man(0, 3));
        e.answers(one + kills(6, "m", 0), "their worth: none", 0, x -> x.man(1, 3));
        e.answers(one + ";kill k by m far 0 worth 0", "their worth: 0", 0, x -> x.man(0, 3));
        e.answers(one + kills(6, "m", 0), "kills he SHOT: all six", 63, x -> x.man(0, 4));
        e.answers(one + kills(6, "m", 0), "kills he SHOT: none", 0, x -> x.man(1, 4));
        e.answers(one + kills(6, "m", 0) + ";taken kb n", "kills that follow him: taken", 1, x -> x.man(1, 2));
        e.answers(one + kills(6, "m", 0) + ";taken kb n", "their worth: taken", 20, x -> x.man(1, 3));
        e.answers(one + kills(6, "m", 0) + ";taken kb n", "kills he SHOT: taken", 63, x -> x.man(0, 4));

        e.says(7, "NONE: 1.");
        e.noSuch("man(.., 0)", Edges.FULL_MEN, (x, i) -> x.man(i, 0));
        e.noSuch("man(0, ..)", 5, (x, i) -> x.man(0, i));
        e.noneInBare("man(.., 0)", (x, i) -> x.man(i, 0));
    }

    private static void kill(Edges e) {
        e.says(8, "Of a kill 0 who SHOT it, 1 whom it follows, 2 far as told, 3 worth, 4 where it STANDS (-2 nowhere), 5 how many STEPS behind it should.");
        int[][] due = {{0, 0, 0, 20, 0, 0}, {3, 3, 3, 0, 3, 0}};
        for (int what = 0; what <= 5; what++) {
            int asked = what;
            e.answers(Edges.FULL, "kill(0, " + what + ")", due[0][what], x -> x.kill(0, asked));
            e.answers(Edges.FULL, "kill(5, " + what + ")", due[1][what], x -> x.kill(5, asked));
        }
        e.answers("forest dies 0;place a lit holds 9;man m sport at a" + kills(1, "m", 0), "nowhere", -2, x -> x.kill(0, 4));
        // far stays as told, whoever leads; how many STEPS behind goes by who leads.
        KillFollows x = e.told(Edges.FULL);
        x.take(5, 2);
        e.due("far as told", x.kill(5, 2), 3);
        e.due("STEPS behind a poacher", x.kill(5, 5), 6);
        x.take(5, 1);
        e.due("STEPS behind a keeper", x.kill(5, 5), 4);

        e.says(8, "NONE: 1.");
        e.noSuch("kill(.., 0)", Edges.FULL_KILLS, (y, i) -> y.kill(i, 0));
        e.noSuch("kill(0, ..)", 6, (y, i) -> y.kill(0, i));
        e.noneInBare("kill(.., 0)", (y, i) -> y.kill(i, 0));
    }

    private static void trail(Edges e) {
        e.says(9, "TRAIL of a man, so many STEPS (0 .. 7) ago. NONE: 1; 2.");
        e.bounds("trail(0, ..)", 0, 7, (x, i) -> x.trail(0, i));
        e.noSuch("trail(.., 0)", Edges.FULL_MEN, (x, i) -> x.trail(i, 0));
        e.noneInBare("trail(.., 0)", (x, i) -> x.trail(i, 0));
        e.refuses(Edges.FULL, "trail(4, 8)", 1, x -> x.trail(4, 8));
    }

    private static void crowded(Edges e) {
        e.says(10, "Places that are CROWDED, as bits. NONE: 1 (no FOREST).");
        e.refuses(Edges.NO_FOREST, "crowded()", 1, KillFollows::crowded);
        e.answers(Edges.BARE, "crowded(): none", 0, KillFollows::crowded);
        String six = Edges.row(7).replace("holds 9", "holds 0") + ";man m sport at a;walk m b;walk m c;man n sport at d;walk n e;walk n f"
                + ";kill ka by m far 0 worth 0;kill kb by m far 1 worth 0;kill kc by m far 2 worth 0"
                + ";kill kd by n far 0 worth 0;kill ke by n far 1 worth 0;kill kf by n far 2 worth 0";
        e.answers(six, "crowded(): six", 63, KillFollows::crowded);
        e.answers(six.replace("holds 0", "holds 1"), "crowded(): as many as are held", 0, KillFollows::crowded);
        // A lit place holds nobody, however many it could.
        KillFollows x = e.told(six);
        x.light(0, true);
        x.light(1, true);
        x.light(2, true);
        e.due("crowded() with three lit", x.crowded(), 56);
    }

    private static void leader(Edges e) {
        e.says(11, "The man who is followed by most kills, the first such; -2 nobody is there.");
        e.answers(Edges.BARE, "leader() without men", -2, KillFollows::leader);
        String four = Edges.BARE + ";man ma sport at a;man mb sport at a;man mc sport at a;man md sport at a";
        e.answers(four, "leader() without kills", 0, KillFollows::leader);
        e.answers(four + kills(1, "md", 0), "leader(), the last", 3, KillFollows::leader);
        e.answers(four + kills(2, "md", 0) + ";kill x by mb far 0 worth 0;kill y by mb far 0 worth 0", "leader(), the first of two", 1,
                KillFollows::leader);
        e.answers(four + kills(2, "mb", 0) + ";taken kb md;taken kc md", "leader(): whom they follow, not who SHOT", 3, KillFollows::leader);

        e.says(11, "NONE: 1 (no FOREST).");
        e.refuses(Edges.NO_FOREST, "leader()", 1, KillFollows::leader);
    }

    private static void near(Edges e) {
        e.says(12, "Kills that STAND at a NEIGHBOUR of a man or where he is, as bits. NONE: 1.");
        // m is at a; n's kill STANDS at the place where n is.
        for (int p = 0; p < 7; p++) {
            char name = (char) ('a' + p);
            String text = Edges.row(7) + ";man m sport at c;man n prince at " + name + ";kill k by n far 0 worth 0";
            e.answers(text, "near(0) with a kill at " + name, p >= 1 && p <= 3 ? 1 : 0, x -> x.near(0));
        }
        e.answers(Edges.BARE + ";man m sport at a", "near(0) without kills", 0, x -> x.near(0));
        e.answers(STAR + ";man m prince at a" + kills(6, "m", 0), "near(0) with all six", 63, x -> x.near(0));
        e.answers("forest dies 0;place a lit holds 0;man m prince at a" + kills(6, "m", 0), "near(0) of those nowhere", 0, x -> x.near(0));
        e.noSuch("near", Edges.FULL_MEN, (x, i) -> x.near(i));
        e.noneInBare("near", (x, i) -> x.near(i));
    }

    private static void room(Edges e) {
        e.says(13, "How many kills more could STAND in dark places, not CROWDED ones. NONE: 1 (no FOREST).");
        e.refuses(Edges.NO_FOREST, "room()", 1, KillFollows::room);
        e.answers(Edges.BARE, "room() where none is held", 0, KillFollows::room);
        e.answers(Edges.alone(7), "room(), the most", 63, KillFollows::room);
        e.answers(Edges.alone(7).replace("dark", "lit"), "room() with all lit", 0, KillFollows::room);
        e.answers(HEAP, "room() of c", 9, KillFollows::room);
        e.answers(HEAP + kills(6, "m", 0), "room(): a CROWDED place takes nothing off", 9, KillFollows::room);
        for (int n = 0; n <= 6; n++) {
            e.answers(HEAP.replace("holds 0", "holds 3") + kills(n, "m", 0), "room() with " + n + " where 3 are held",
                    9 + Math.max(0, 3 - n), KillFollows::room);
        }
        KillFollows x = e.told(HEAP);
        x.light(1, false);
        e.due("room() with b put out", x.room(), 18);
        x.light(2, true);
        e.due("room() with c lit", x.room(), 9);
    }

    private static void led(Edges e) {
        e.says(53, "The i-th kill, by numbers, that STANDS nowhere. NoSuchElementException if there is none such.");
        e.due("led(0) without a FOREST", Edges.led(new KillFollows(), 0), -9);
        e.due("led(0) without kills", Edges.led(e.told(Edges.BARE), 0), -9);
        e.due("led(0) when all STAND", Edges.led(e.told(Edges.FULL), 0), -9);
        KillFollows x = e.told("forest dies 0;place a lit holds 0;man m prince at a" + kills(6, "m", 0));
        for (int i = 0; i < 6; i++) {
            e.due("led(" + i + ") of six", Edges.led(x, i), i);
        }
        for (int i : new int[] {-1, 6, Edges.LEAST, Edges.MOST}) {
            e.due("led(" + i + ") of six", Edges.led(x, i), -9);
        }
        // Of a at a lit place and b at a dark one, the second and the fourth kill STAND nowhere.
        x = e.told("forest dies 0;place a lit holds 0;place b dark holds 0;man m prince at a;man n prince at b"
                + ";kill ka by n far 0 worth 0;kill kb by m far 0 worth 0;kill kc by n far 0 worth 0;kill kd by m far 0 worth 0");
        e.due("led(0)", Edges.led(x, 0), 1);
        e.due("led(1)", Edges.led(x, 1), 3);
        e.due("led(2)", Edges.led(x, 2), -9);
        x.undo();
        Edges.led(x, 2);
        e.due("trouble(): no number is told of led", x.trouble(), 6);
    }
}
