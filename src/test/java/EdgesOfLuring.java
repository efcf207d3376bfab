/** Boundary cases of luring: promises 21 to 24. */
final class EdgesOfLuring {
    // A row of seven places, m at the first; his kills follow him by far 0 to 3.
    private static final String ROW = Edges.row(7) + ";man m sport at a;kill ka by m far 0 worth 0;kill kb by m far 1 worth 0;"
            + "kill kc by m far 2 worth 0;kill kd by m far 3 worth 0";
    // A place by itself: he can only stay.
    private static final String ALONE = Edges.alone(2) + ";man m sport at a;kill k by m far 0 worth 0";
    // From a to d by b or by c.
    private static final String TWO_WAYS = Edges.alone(4) + ";path a c;path a b;path b d;path c d;man m sport at a;"
            + "kill ka by m far 0 worth 0;kill kb by m far 1 worth 0";

    private EdgesOfLuring() {
    }

    static void run(Edges e) {
        follows(e);
        wrongRows(e);
        lure(e);
        lureRow(e);
        lures(e);
    }

    private static void follows(Edges e) {
        e.says(21, "Where a kill would STAND behind n STEPS (0 .. 6) of its man by a row of digits "
                + "(the first one's the highest; 0 he stays, else a place's number and 1; -2 nowhere).");
        e.answers(ROW, "follows(0, 0, 0): now", 0, x -> x.follows(0, 0, 0));
        e.answers(ROW, "follows(0, 234567, 6)", 6, x -> x.follows(0, 234567, 6));
        e.answers(ROW, "follows(3, 234567, 6)", 3, x -> x.follows(3, 234567, 6));
        e.answers(ROW, "follows(0, 2, 6): he stays five times first", 1, x -> x.follows(0, 2, 6));
        e.answers(ROW, "follows(1, 2, 6)", 0, x -> x.follows(1, 2, 6));
        e.answers(ROW, "follows(3, 200000, 6): he stays five times behind it", 1, x -> x.follows(3, 200000, 6));
        e.answers(ROW, "follows(0, 0, 6): he stays", 0, x -> x.follows(0, 0, 6));
        e.answers(ROW, "follows(0, 21, 2): there and back", 0, x -> x.follows(0, 21, 2));
        e.answers(ROW, "follows(0, 1, 1): where he is, he stays", 0, x -> x.follows(0, 1, 1));
        e.answers(ROW.replace("at a", "at f"), "follows(0, 7, 1): the last place", 6, x -> x.follows(0, 7, 1));
        e.answers(Edges.BARE + ";man m sport at a;kill k by m far 0 worth 0", "follows(0, 101010, 6) of one place", 0,
                x -> x.follows(0, 101010, 6));
        String lit = ROW.replace("place a dark", "place a lit").replace("place b dark", "place b lit");
        e.answers(lit, "follows(0, 0, 0): nowhere", -2, x -> x.follows(0, 0, 0));
        e.answers(lit, "follows(0, 212121, 6): nowhere", -2, x -> x.follows(0, 212121, 6));
        e.answers(lit, "follows(0, 23, 2): dark", 2, x -> x.follows(0, 23, 2));
        KillFollows x = e.told(ROW);
        x.follows(0, 234567, 6);
        e.due("he is where he was", x.man(0, 1), 0);
    }

    private static void wrongRows(Edges e) {
        e.says(21, "NONE: 1;");
        e.noSuch("follows(.., 0, 0)", Edges.FULL_KILLS, (x, i) -> x.follows(i, 0, 0));
        e.noneInBare("follows(.., 0, 0)", (x, i) -> x.follows(i, 0, 0));
        e.refuses(ROW, "follows(4, -1, 7)", 1, x -> x.follows(4, -1, 7));

        e.says(21, "2 (n, more digits, below 0, a digit of no place);");
        e.bounds("follows(0, 0, ..)", 0, 6, (x, i) -> x.follows(0, 0, i));
        int tens = 1;
        for (int n = 0; n <= 6; n++) {
            int row = tens;
            int steps = n;
            e.refuses(ROW, "follows(0, " + row + ", " + n + "): more digits", 2, x -> x.follows(0, row, steps));
            tens *= 10;
        }
        e.refuses(ROW, "follows(0, MAX, 6): more digits", 2, x -> x.follows(0, Edges.MOST, 6));
        e.refuses(ROW, "follows(0, -1, 6): below 0", 2, x -> x.follows(0, -1, 6));
        e.refuses(ROW, "follows(0, -1, 0): below 0", 2, x -> x.follows(0, -1, 0));
        e.refuses(ROW, "follows(0, MIN, 6): below 0", 2, x -> x.follows(0, Edges.LEAST, 6));
        e.refuses(ROW, "follows(0, 8, 1): no place", 2, x -> x.follows(0, 8, 1));
        e.refuses(ROW, "follows(0, 9, 1): no place", 2, x -> x.follows(0, 9, 1));
        e.refuses(ROW, "follows(0, 800000, 6): no place", 2, x -> x.follows(0, 800000, 6));
        e.refuses(ROW, "follows(0, 8, 6): no place", 2, x -> x.follows(0, 8, 6));
        e.refuses(ALONE, "follows(0, 3, 1): no place of two", 2, x -> x.follows(0, 3, 1));
        e.refuses(ROW, "follows(0, 38, 2): 2 is tried ahead of 5", 2, x -> x.follows(0, 38, 2));

        e.says(21, "5 (a STEP that can't be).");
        e.refuses(ROW, "follows(0, 3, 1): no NEIGHBOUR", 5, x -> x.follows(0, 3, 1));
        e.refuses(ROW, "follows(0, 7, 6): no NEIGHBOUR", 5, x -> x.follows(0, 7, 6));
        e.refuses(ROW, "follows(0, 234561, 6): the last one", 5, x -> x.follows(0, 234561, 6));
        e.refuses(ALONE, "follows(0, 2, 1): no path", 5, x -> x.follows(0, 2, 1));
    }

    private static void lure(Edges e) {
        e.says(0, "LURE for a kill and a place: the fewest STEPS (0 .. 5) of the man whom it follows behind which it STANDS there; "
                + "of like ones the first row, STEP by STEP (staying ahead of all, then places by numbers).");
        e.answers(ROW, "lure(0, 0): no STEP", 0, x -> x.lure(0, 0));
        e.answers(ROW, "lureRow(0, 0): no STEP", 0, x -> x.lureRow(0, 0));
        e.answers(ROW, "lure(0, 5): five", 5, x -> x.lure(0, 5));
        e.answers(TWO_WAYS, "lureRow(0, 3): by b, not by c", 24, x -> x.lureRow(0, 3));
        // One behind him: two STEPS lead it to d's NEIGHBOUR b by staying there or going on; staying is first.
        e.answers(TWO_WAYS, "lureRow(1, 1): staying ahead of all", 20, x -> x.lureRow(1, 1));
        e.answers(TWO_WAYS, "lureRow(1, 3)", 240, x -> x.lureRow(1, 3));
        // The man whom it follows, not who SHOT it.
        e.answers(TWO_WAYS + ";man n prince at d;taken ka n", "lure(0, 3) of a taken one", 0, x -> x.lure(0, 3));

        e.says(22, "LURE: how many STEPS; -2 five aren't enough.");
        for (int k = 0; k < 4; k++) {
            for (int p = 0; p < 7; p++) {
                int who = k;
                int where = p;
                int steps = p == 0 ? 0 : p + k;
                e.answers(ROW, "lure(" + k + ", " + p + ")", steps <= 5 ? steps : -2, x -> x.lure(who, where));
            }
        }
        e.answers(ALONE, "lure(0, 1) without a way", -2, x -> x.lure(0, 1));
        e.answers(ALONE, "lure(0, 0) of one who can only stay", 0, x -> x.lure(0, 0));
        e.answers(ALONE.replace("place a dark", "place a lit"), "lure(0, 0) into the light", -2, x -> x.lure(0, 0));

        e.says(22, "NONE: 1.");
        e.noSuch("lure(.., 0)", Edges.FULL_KILLS, (x, i) -> x.lure(i, 0));
        e.noSuch("lure(0, ..)", Edges.FULL_PLACES, (x, i) -> x.lure(0, i));
        e.noneInBare("lure(.., 0)", (x, i) -> x.lure(i, 0));
    }

    private static void lureRow(Edges e) {
        e.says(23, "Its row, as digits like above; -2. NONE: 1.");
        int[] due = {0, 2, 23, 234, 2345, 23456, -2};
        for (int p = 0; p < 7; p++) {
            int where = p;
            e.answers(ROW, "lureRow(0, " + p + ")", due[p], x -> x.lureRow(0, where));
        }
        e.answers(ROW, "lureRow(3, 2): five", 23000, x -> x.lureRow(3, 2));
        e.answers(ROW, "lureRow(3, 3): five aren't enough", -2, x -> x.lureRow(3, 3));
        // It STANDS nowhere until he has been in a dark place; staying first leads nowhere sooner.
        String lit = ROW.replace("place a dark", "place a lit");
        e.answers(lit, "lureRow(0, 0): never in the light", -2, x -> x.lureRow(0, 0));
        e.answers(lit, "lureRow(0, 1)", 2, x -> x.lureRow(0, 1));
        // Each row found leads there, and a second call finds the same.
        KillFollows x = e.told(ROW);
        e.due("lureRow(1, 4), once", x.lureRow(1, 4), 23450);
        e.due("lureRow(1, 4), again", x.lureRow(1, 4), 23450);
        e.due("follows by it", x.follows(1, 23450, 5), 4);
        e.noSuch("lureRow(.., 0)", Edges.FULL_KILLS, (y, i) -> y.lureRow(i, 0));
        e.noSuch("lureRow(0, ..)", Edges.FULL_PLACES, (y, i) -> y.lureRow(0, i));
        e.noneInBare("lureRow(.., 0)", (y, i) -> y.lureRow(i, 0));
    }

    private static void lures(Edges e) {
        e.says(24, "Places where it can be LURED to at all in so many STEPS (0 .. 5) or fewer, as bits. NONE: 1; 2.");
        int[] due = {1, 3, 7, 15, 31, 63};
        for (int n = 0; n <= 5; n++) {
            int steps = n;
            e.answers(ROW, "lures(0, " + n + ")", due[n], x -> x.lures(0, steps));
            e.answers(ROW, "lures(3, " + n + ")", n < 4 ? 1 : n < 5 ? 3 : 7, x -> x.lures(3, steps));
            e.answers(ALONE, "lures(0, " + n + ") of one who can only stay", 1, x -> x.lures(0, steps));
            e.answers(ALONE.replace("place a dark", "place a lit"), "lures(0, " + n + ") in the light", 0, x -> x.lures(0, steps));
        }
        e.answers(ROW.replace("at a", "at d"), "lures(0, 5): all seven", 127, x -> x.lures(0, 5));
        // Seven STEPS behind him is the last dark place: behind any STEP it STANDS nowhere, but behind none it did.
        String last = "forest dies 0;place a dark holds 0;place b lit holds 0;place c lit holds 0;place d lit holds 0;"
                + "path a b;path b c;path c d;man m prince at a;walk m b;walk m c;walk m d;walk m c;walk m d;walk m c;walk m d;"
                + "kill k by m far 0 worth 0";
        e.answers(last, "follows(0, 0, 1)", -2, x -> x.follows(0, 0, 1));
        e.answers(last, "lures(0, 1): fewer count", 1, x -> x.lures(0, 1));
        e.answers(last, "lures(0, 5): fewer count", 1, x -> x.lures(0, 5));
        e.bounds("lures(0, ..)", 0, 5, (x, i) -> x.lures(0, i));
        e.noSuch("lures(.., 0)", Edges.FULL_KILLS, (x, i) -> x.lures(i, 0));
        e.noneInBare("lures(.., 0)", (x, i) -> x.lures(i, 0));
        e.refuses(ROW, "lures(4, 6)", 1, x -> x.lures(4, 6));
    }
}
