/** Boundary cases at the edge, of DEATHS and RAMBLES: promises 38 to 46. */
final class EdgesOfChances {
    // SEED 65,536 becomes itself for ever, as 75 times -1 and 74 is -1; 45,438 alone becomes 0.
    private static final int FOR_EVER = 65536;
    private static final int TO_NOTHING = 45438;
    private static final String FORK = Edges.alone(3) + ";path a c;path a b;man m sport at a";

    private EdgesOfChances() {
    }

    static void run(Edges e) {
        edge(e);
        rests(e);
        rest(e);
        breathes(e);
        silent(e);
        mean(e);
        draws(e);
        rambles(e);
        stands(e);
        meet(e);
    }

    private static void edge(Edges e) {
        e.says(0, "KEEPER and POACHER at the edge: each walks the road or goes into the wood; both on the road: nothing for either; "
                + "the poacher in the wood alone: he has the worth, the keeper loses it; the keeper in the wood alone: he loses 1; "
                + "both: the keeper has 3, the poacher loses the worth.");
        e.answers(Edges.BARE, "edge(7, false, true, true): the poacher alone", 7, x -> x.edge(7, false, true, true));
        e.answers(Edges.BARE, "edge(7, false, true, false): the poacher alone", -7, x -> x.edge(7, false, true, false));
        e.answers(Edges.BARE, "edge(7, true, false, false): the keeper alone", -1, x -> x.edge(7, true, false, false));
        e.answers(Edges.BARE, "edge(7, true, false, true): the keeper alone", 0, x -> x.edge(7, true, false, true));
        e.answers(Edges.BARE, "edge(7, true, true, false): both", 3, x -> x.edge(7, true, true, false));
        e.answers(Edges.BARE, "edge(7, true, true, true): both", -7, x -> x.edge(7, true, true, true));
        e.answers(Edges.BARE, "edge(7, false, false, false): neither", 0, x -> x.edge(7, false, false, false));
        e.answers(Edges.BARE, "edge(7, false, false, true): neither", 0, x -> x.edge(7, false, false, true));

        e.says(38, "What the keeper (or ofPoacher, the poacher) has of a worth (0 .. 20), if each goes into the wood or not.");
        for (int worth : new int[] {0, 20}) {
            int[][] due = {{0, 0}, {-worth, worth}, {-1, 0}, {3, -worth}};
            for (int pair = 0; pair < 4; pair++) {
                boolean keeper = pair >= 2;
                boolean poacher = pair % 2 == 1;
                e.answers(Edges.BARE, "edge(" + worth + ", " + keeper + ", " + poacher + ", false)", due[pair][0],
                        x -> x.edge(worth, keeper, poacher, false));
                e.answers(Edges.BARE, "edge(" + worth + ", " + keeper + ", " + poacher + ", true)", due[pair][1],
                        x -> x.edge(worth, keeper, poacher, true));
            }
        }

        e.says(38, "-100: 1 (no FOREST); 2.");
        e.refuses(Edges.NO_FOREST, "edge(0, ..)", -100, 1, x -> x.edge(0, true, true, true));
        e.refuses(Edges.NO_FOREST, "edge(21, ..)", -100, 1, x -> x.edge(21, true, true, true));
        e.bounds("edge", 0, 20, -100, (x, i) -> x.edge(i, false, false, false));
        e.bounds("edge of the poacher", 0, 20, -100, (x, i) -> x.edge(i, true, true, true));
    }

    private static void rests(Edges e) {
        e.says(0, "REST: a pair by which neither could have more alone.");
        // Of 0 the poacher has as much on the road as in the wood: not more, so both pairs rest.
        e.answers(Edges.BARE, "rests(0)", 2, x -> x.rests(0));
        e.answers(Edges.BARE, "rests(1)", 0, x -> x.rests(1));

        e.says(39, "How many RESTS. NONE: 1 (no FOREST); 2.");
        e.answers(Edges.BARE, "rests(20)", 0, x -> x.rests(20));
        e.refuses(Edges.NO_FOREST, "rests(0)", 1, x -> x.rests(0));
        e.refuses(Edges.NO_FOREST, "rests(21)", 1, x -> x.rests(21));
        e.bounds("rests", 0, 20, (x, i) -> x.rests(i));
    }

    private static void rest(Edges e) {
        e.says(40, "The first (the road ahead, the keeper's first): 10 if the keeper goes into the wood, and 1 if the poacher does; -2. NONE: likewise.");
        e.answers(Edges.BARE, "rest(0): both on the road", 0, x -> x.rest(0));
        for (int worth = 1; worth <= 20; worth++) {
            int w = worth;
            e.answers(Edges.BARE, "rest(" + worth + ")", -2, x -> x.rest(w));
        }
        e.refuses(Edges.NO_FOREST, "rest(0)", 1, x -> x.rest(0));
        e.refuses(Edges.NO_FOREST, "rest(-1)", 1, x -> x.rest(-1));
        e.bounds("rest", 0, 20, (x, i) -> x.rest(i));
    }

    private static String dying(int dies, int men, int kills) {
        StringBuilder text = new StringBuilder("forest dies " + dies + ";place a dark holds 9");
        for (int m = 0; m < men; m++) {
            text.append(";man m").append((char) ('a' + m)).append(" sport at a");
        }
        return text + EdgesOfNow.kills(kills, "ma", 0);
    }

    private static void breathes(Edges e) {
        e.says(0, "DEATHS: each man dies in each year by dies, as likely as told. A kill BREATHES when the man whom it follows is dead.");
        // Whoever SHOT it, and wherever it STANDS: each man is as likely dead.
        KillFollows taken = e.told(dying(10, 2, 1));
        taken.take(0, 1);
        taken.light(0, true);
        e.due("breathes(0, 2, false): 19 by 100", taken.breathes(0, 2, false), 19);
        e.due("breathes(0, 2, true): 19 by 100", taken.breathes(0, 2, true), 100);
        e.due("silent(2, false): both are dead", taken.silent(2, false), 361);
        e.due("silent(2, true): both are dead", taken.silent(2, true), 10000);

        e.says(41, "How likely a kill BREATHES behind n years (0 .. 2), the upper WHOLE or the lower, in lowest terms (0 by 1).");
        int[] dies = {0, 1, 50, 99, 100};
        long[][] upper = {{0, 0, 0}, {0, 1, 199}, {0, 1, 3}, {0, 99, 9999}, {0, 1, 1}};
        long[][] lower = {{1, 1, 1}, {1, 100, 10000}, {1, 2, 4}, {1, 100, 10000}, {1, 1, 1}};
        for (int i = 0; i < dies.length; i++) {
            for (int n = 0; n <= 2; n++) {
                int years = n;
                e.answers(dying(dies[i], 1, 1), "breathes(0, " + n + ", false) of " + dies[i], upper[i][n], x -> x.breathes(0, years, false));
                e.answers(dying(dies[i], 1, 1), "breathes(0, " + n + ", true) of " + dies[i], lower[i][n], x -> x.breathes(0, years, true));
            }
        }

        e.says(41, "-1: 1; 2.");
        e.noSuch("breathes(.., 0, false)", Edges.FULL_KILLS, (x, i) -> x.breathes(i, 0, false));
        e.noneInBare("breathes(.., 0, true)", (x, i) -> x.breathes(i, 0, true));
        e.bounds("breathes(0, .., false)", 0, 2, (x, i) -> x.breathes(0, i, false));
        e.bounds("breathes(0, .., true)", 0, 2, (x, i) -> x.breathes(0, i, true));
        e.refuses(Edges.FULL, "breathes(6, 3, true)", 1, x -> x.breathes(6, 3, true));
    }

    private static void silent(Edges e) {
        e.says(42, "How likely all men are dead then, likewise.");
        long tenPower16 = 10000000000000000L;
        for (int n = 0; n <= 2; n++) {
            int years = n;
            e.answers(dying(0, 4, 0), "silent(" + n + ", false) of 0", 0, x -> x.silent(years, false));
            e.answers(dying(0, 4, 0), "silent(" + n + ", true) of 0", 1, x -> x.silent(years, true));
            e.answers(dying(100, 4, 0), "silent(" + n + ", false) of 100", n == 0 ? 0 : 1, x -> x.silent(years, false));
            e.answers(dying(100, 4, 0), "silent(" + n + ", true) of 100", 1, x -> x.silent(years, true));
            // Nobody is there: all who are there are dead.
            e.answers(dying(50, 0, 0), "silent(" + n + ", false) without men", 1, x -> x.silent(years, false));
            e.answers(dying(50, 0, 0), "silent(" + n + ", true) without men", 1, x -> x.silent(years, true));
        }
        e.answers(dying(99, 4, 0), "silent(2, false), the greatest", 9999L * 9999 * 9999 * 9999, x -> x.silent(2, false));
        e.answers(dying(99, 4, 0), "silent(2, true), the greatest", tenPower16, x -> x.silent(2, true));
        e.answers(dying(50, 4, 0), "silent(1, false)", 1, x -> x.silent(1, false));
        e.answers(dying(50, 4, 0), "silent(1, true)", 16, x -> x.silent(1, true));

        e.says(42, "-1: 1 (no FOREST); 2.");
        e.refuses(Edges.NO_FOREST, "silent(0, false)", 1, x -> x.silent(0, false));
        e.refuses(Edges.NO_FOREST, "silent(3, true)", 1, x -> x.silent(3, true));
        e.bounds("silent(.., false)", 0, 2, (x, i) -> x.silent(i, false));
        e.bounds("silent(.., true)", 0, 2, (x, i) -> x.silent(i, true));
    }

    private static void mean(Edges e) {
        e.says(43, "The mean of how many kills BREATHE then, likewise.");
        for (int n = 0; n <= 2; n++) {
            int years = n;
            e.answers(dying(100, 1, 6), "mean(" + n + ", false) of 100", n == 0 ? 0 : 6, x -> x.mean(years, false));
            e.answers(dying(100, 1, 6), "mean(" + n + ", true) of 100", 1, x -> x.mean(years, true));
            e.answers(dying(0, 1, 6), "mean(" + n + ", false) of 0", 0, x -> x.mean(years, false));
            e.answers(dying(0, 1, 6), "mean(" + n + ", true) of 0", 1, x -> x.mean(years, true));
            e.answers(dying(50, 1, 0), "mean(" + n + ", false) without kills", 0, x -> x.mean(years, false));
            e.answers(dying(50, 1, 0), "mean(" + n + ", true) without kills", 1, x -> x.mean(years, true));
        }
        e.answers(dying(99, 1, 6), "mean(2, false), 6 times 9,999 by 10,000", 29997, x -> x.mean(2, false));
        e.answers(dying(99, 1, 6), "mean(2, true), 6 times 9,999 by 10,000", 5000, x -> x.mean(2, true));
        e.answers(dying(50, 1, 2), "mean(1, false), 2 by 2", 1, x -> x.mean(1, false));
        e.answers(dying(50, 1, 2), "mean(1, true), 2 by 2", 1, x -> x.mean(1, true));

        e.says(43, "-1: 1 (no FOREST); 2.");
        e.refuses(Edges.NO_FOREST, "mean(0, false)", 1, x -> x.mean(0, false));
        e.refuses(Edges.NO_FOREST, "mean(-1, true)", 1, x -> x.mean(-1, true));
        e.bounds("mean(.., false)", 0, 2, (x, i) -> x.mean(i, false));
        e.bounds("mean(.., true)", 0, 2, (x, i) -> x.mean(i, true));
    }

    private static void draws(Edges e) {
        e.says(0, "RAMBLES by a SEED: STEPS of all men, one by one by numbers: a DRAW mod (1 and how many NEIGHBOURS): 0 he stays, else to so manieth one by numbers "
                + "(SEED becomes (75 times SEED and 74) mod 65,537).");
        // mod 3: 74 is 2, 65,536 is 1, 0 is 0.
        e.answers(FORK, "rambles(0, 0, 1): 74, the second NEIGHBOUR", 2, x -> x.rambles(0, 0, 1));
        e.answers(FORK, "rambles(0, 65536, 1): 65,536, the first NEIGHBOUR", 1, x -> x.rambles(0, FOR_EVER, 1));
        // 75 times 873 and 74 is 65,549: around to 12, which is 0 mod 3; 872: 65,474, not around, 2 mod 3.
        e.answers(FORK, "rambles(0, 873, 1): around to 12, he stays", 0, x -> x.rambles(0, 873, 1));
        e.answers(FORK, "rambles(0, 872, 1): not around, 65,474", 2, x -> x.rambles(0, 872, 1));
        // The least DRAW, and the one behind it.
        e.answers(FORK, "rambles(0, 45438, 1): around to 0, he stays", 0, x -> x.rambles(0, TO_NOTHING, 1));
        e.answers(FORK, "rambles(0, 45438, 2): then 74", 2, x -> x.rambles(0, TO_NOTHING, 2));
        // Without NEIGHBOURS mod 1: he stays, but draws, so that the next one has the second DRAW (5,624: 2 mod 3).
        String two = Edges.alone(4) + ";path a c;path a b;man n sport at d;man m sport at a";
        e.answers(two, "rambles(0, 0, 60) of one by himself", 3, x -> x.rambles(0, 0, 60));
        e.answers(two, "rambles(1, 0, 1) by the second DRAW", 2, x -> x.rambles(1, 0, 1));
        // All six NEIGHBOURS: mod 7, 65,536 is 2.
        String star = Edges.alone(7) + ";path d a;path d b;path d c;path d e;path d f;path d g;man m sport at d";
        e.answers(star, "rambles(0, 65536, 1) of six NEIGHBOURS", 1, x -> x.rambles(0, FOR_EVER, 1));
        e.answers(star, "rambles(0, 0, 1) of six NEIGHBOURS: 74 is 4 mod 7", 4, x -> x.rambles(0, 0, 1));
    }

    private static void rambles(Edges e) {
        e.says(44, "Where a man is behind n times (0 .. 60) all STEP by RAMBLES by a SEED (0 .. 65,536). NONE: 1; 2.");
        e.answers(FORK, "rambles(0, 0, 0): where he is", 0, x -> x.rambles(0, 0, 0));
        e.answers(FORK, "rambles(0, 65536, 60)", 1, x -> x.rambles(0, FOR_EVER, 60));
        KillFollows x = e.told(FORK);
        x.rambles(0, 0, 60);
        e.due("man(0, 1): he is where he was", x.man(0, 1), 0);
        e.due("size(8): no STEPS by ACTS", x.size(8), 0);
        e.noSuch("rambles(.., 0, 0)", Edges.FULL_MEN, (y, i) -> y.rambles(i, 0, 0));
        e.noneInBare("rambles(.., 0, 0)", (y, i) -> y.rambles(i, 0, 0));
        e.bounds("rambles(0, .., 1)", 0, 65536, (y, i) -> y.rambles(0, i, 1));
        e.bounds("rambles(0, 0, ..)", 0, 60, (y, i) -> y.rambles(0, 0, i));
        e.refuses(Edges.FULL, "rambles(4, 65537, 61)", 1, y -> y.rambles(4, 65537, 61));
    }

    private static void stands(Edges e) {
        e.says(45, "Where a kill STANDS then (-2 nowhere). NONE: 1; 2.");
        String text = FORK + ";kill k by m far 0 worth 0;kill l by m far 3 worth 0";
        e.answers(text, "stands(0, 0, 0)", 0, x -> x.stands(0, 0, 0));
        e.answers(text, "stands(0, 0, 1)", 2, x -> x.stands(0, 0, 1));
        // By 65,536 he is at b, then stays (mod 2 it is 0); three behind him is a until the third time.
        e.answers(text, "stands(1, 65536, 3)", 0, x -> x.stands(1, FOR_EVER, 3));
        e.answers(text, "stands(1, 65536, 4)", 1, x -> x.stands(1, FOR_EVER, 4));
        e.answers(text, "stands(1, 65536, 60)", 1, x -> x.stands(1, FOR_EVER, 60));
        String lit = text.replace("place b dark", "place b lit");
        e.answers(lit, "stands(1, 65536, 7): a, the last of the TRAIL", 0, x -> x.stands(1, FOR_EVER, 7));
        e.answers(lit, "stands(1, 65536, 8): nowhere", -2, x -> x.stands(1, FOR_EVER, 8));
        e.noSuch("stands(.., 0, 0)", Edges.FULL_KILLS, (x, i) -> x.stands(i, 0, 0));
        e.noneInBare("stands(.., 0, 0)", (x, i) -> x.stands(i, 0, 0));
        e.bounds("stands(0, .., 1)", 0, 65536, (x, i) -> x.stands(0, i, 1));
        e.bounds("stands(0, 0, ..)", 0, 60, (x, i) -> x.stands(0, 0, i));
        e.refuses(Edges.FULL, "stands(6, -1, -1)", 1, x -> x.stands(6, -1, -1));
    }

    private static void meet(Edges e) {
        e.says(46, "Behind how many times (1 .. n) two men are at one place first; -2 behind none.");
        String together = Edges.BARE + ";man m sport at a;man n sport at a";
        e.answers(together, "meet(0, 0): only times that have passed count", -2, x -> x.meet(0, 0));
        e.answers(together, "meet(0, 1)", 1, x -> x.meet(0, 1));
        e.answers(together, "meet(0, 60)", 1, x -> x.meet(0, 60));
        e.answers(Edges.BARE, "meet(0, 60) without men", -2, x -> x.meet(0, 60));
        e.answers(Edges.BARE + ";man m sport at a", "meet(0, 60) of one man", -2, x -> x.meet(0, 60));
        e.answers(Edges.alone(2) + ";man m sport at a;man n sport at b", "meet(0, 60) of two apart", -2, x -> x.meet(0, 60));
        // The DRAWS of 0: m 74 to c, n 5,624 (0 mod 2) stays; 28,652 and 51,790 likewise; m 17,641 (1 mod 2)
        // back to a and n 12,409 (1 mod 2) to a, too.
        String three = FORK + ";man n sport at b";
        e.answers(three, "meet(0, 2)", -2, x -> x.meet(0, 2));
        e.answers(three, "meet(0, 3)", 3, x -> x.meet(0, 3));
        e.answers(three, "meet(0, 60): the first time", 3, x -> x.meet(0, 60));
        // The last two of four count as well as the first two.
        e.answers(Edges.alone(3) + ";man m sport at a;man n sport at b;man o sport at c;man q sport at c", "meet(0, 1) of the last two", 1,
                x -> x.meet(0, 1));

        e.says(46, "NONE: 1 (no FOREST); 2.");
        e.refuses(Edges.NO_FOREST, "meet(0, 0)", 1, x -> x.meet(0, 0));
        e.refuses(Edges.NO_FOREST, "meet(65537, 61)", 1, x -> x.meet(65537, 61));
        e.bounds("meet(.., 1)", 0, 65536, (x, i) -> x.meet(i, 1));
        e.bounds("meet(0, ..)", 0, 60, (x, i) -> x.meet(0, i));
        e.refuses(Edges.BARE, "meet(65537, 1) without men", 2, x -> x.meet(65537, 1));
    }
}
