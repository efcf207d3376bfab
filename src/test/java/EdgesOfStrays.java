/** Boundary cases of STRAYS: promises 32 to 37. */
final class EdgesOfStrays {
    // ma's TRAIL is d c b a a ..; each far has a place of its own.
    private static final String ROW = Edges.row(7) + ";man ma sport at a;walk ma b;walk ma c;walk ma d";
    // Four princes at one place: all that could be FITS are.
    private static final String ALL = Edges.BARE + ";man ma prince at a;man mb prince at a;man mc prince at a;man md prince at a;stray s at a";
    // Men, but not where the stray was seen.
    private static final String NONE_FITS = Edges.alone(2) + ";man ma prince at a;man mb sport at a;stray s at b";
    private static final String NO_MEN = Edges.BARE + ";stray s at a";

    private EdgesOfStrays() {
    }

    static void run(Edges e) {
        kinds(e);
        fits(e);
        fitAt(e);
        could(e);
        surely(e);
        ask(e);
        askLeaves(e);
    }

    private static void kinds(Edges e) {
        e.says(0, "FITS of one: a man who SHOT it and far (0 .. 3), by which it would STAND where it was seen, behind what was told as a text "
                + "(lamps as told, its man as KIND).");
        for (int far = 0; far <= 3; far++) {
            String text = ROW + ";stray s at " + (char) ('d' - far);
            int due = far;
            e.answers(text, "fits(0) of one far", 1, x -> x.fits(0));
            e.answers(text, "fitAt(0, 0): far " + far, due, x -> x.fitAt(0, 0));
        }
        e.answers(ROW + ";stray s at e", "fits(0) where he never was", 0, x -> x.fits(0));
        // By KIND: a keeper's are one further behind, so that b and a have far 1 and the others.
        String keeper = ROW.replace("sport", "keeper");
        e.answers(keeper + ";stray s at d", "fits(0), a keeper is never so near", 0, x -> x.fits(0));
        e.answers(keeper + ";stray s at a", "fits(0), a keeper's far 2 and 3", 2, x -> x.fits(0));
        e.answers(ROW.replace("sport", "poacher") + ";stray s at b", "fitAt(0, 0), a poacher's far 1", 1, x -> x.fitAt(0, 0));
        e.answers(ROW.replace("sport", "poacher") + ";stray s at c", "fits(0), a poacher is twice so far", 0, x -> x.fits(0));
        e.answers(ROW.replace("sport", "prince") + ";stray s at d", "fits(0), a prince's four", 4, x -> x.fits(0));
        e.answers(ROW.replace("place c dark", "place c lit") + ";stray s at b", "fits(0), two of which one is out of the light", 2,
                x -> x.fits(0));
        e.answers(ROW.replace("place c dark", "place c lit") + ";stray s at c", "fits(0) in the light", 0, x -> x.fits(0));
        // As told: neither lamps nor STEPS by ACTS change it, nor does going back.
        KillFollows x = e.told(ROW + ";stray s at d");
        x.light(3, true);
        x.step(0, 2);
        e.due("fits(0) behind ACTS", x.fits(0), 1);
        e.due("fitAt(0, 0) behind ACTS", x.fitAt(0, 0), 0);
        x.image();
        x.back(0);
        e.due("fits(0) behind back", x.fits(0), 1);
        e.due("could(0) behind back", x.could(0), 1);
    }

    private static void fits(Edges e) {
        e.says(32, "FITS of a stray: how many. NONE: 1.");
        e.answers(ALL, "fits(0): all sixteen", 16, x -> x.fits(0));
        e.answers(NONE_FITS, "fits(0): none", 0, x -> x.fits(0));
        e.answers(NO_MEN, "fits(0) without men", 0, x -> x.fits(0));
        e.noSuch("fits", Edges.FULL_STRAYS, (x, i) -> x.fits(i));
        e.noneInBare("fits", (x, i) -> x.fits(i));
    }

    private static void fitAt(Edges e) {
        e.says(33, "The i-th, by men, then far: 10 times the man and far. NONE: 1 (i, too).");
        for (int i = 0; i < 16; i++) {
            int index = i;
            e.answers(ALL, "fitAt(0, " + i + ")", 10 * (i / 4) + i % 4, x -> x.fitAt(0, index));
        }
        for (int i : new int[] {-1, 16, Edges.LEAST, Edges.MOST}) {
            e.refuses(ALL, "fitAt(0, " + i + ") of sixteen", 1, x -> x.fitAt(0, i));
        }
        e.refuses(NONE_FITS, "fitAt(0, 0) of none", 1, x -> x.fitAt(0, 0));
        e.refuses(NO_MEN, "fitAt(0, 0) without men", 1, x -> x.fitAt(0, 0));
        for (int s : new int[] {-1, 1, Edges.LEAST, Edges.MOST}) {
            e.refuses(ALL, "fitAt(" + s + ", 0)", 1, x -> x.fitAt(s, 0));
        }
        e.refuses(Edges.NO_FOREST, "fitAt(0, 0)", 1, x -> x.fitAt(0, 0));
        e.noneInBare("fitAt(.., 0)", (x, i) -> x.fitAt(i, 0));
    }

    private static void could(Edges e) {
        e.says(34, "Men who SHOT it by some of them, as bits. NONE: 1.");
        e.answers(ALL, "could(0): all", 15, x -> x.could(0));
        e.answers(NONE_FITS, "could(0): none", 0, x -> x.could(0));
        e.answers(NO_MEN, "could(0) without men", 0, x -> x.could(0));
        e.answers(ROW + ";man mb prince at c;man mc prince at a;stray s at c", "could(0): the first two", 3, x -> x.could(0));
        e.noSuch("could", Edges.FULL_STRAYS, (x, i) -> x.could(i));
        e.noneInBare("could", (x, i) -> x.could(i));
    }

    private static void surely(Edges e) {
        e.says(35, "The one by all; -2. NONE: 1.");
        e.answers(ALL, "surely(0): four", -2, x -> x.surely(0));
        e.answers(NONE_FITS, "surely(0): none", -2, x -> x.surely(0));
        e.answers(NO_MEN, "surely(0) without men", -2, x -> x.surely(0));
        e.answers(ROW + ";stray s at b", "surely(0): by one FIT", 0, x -> x.surely(0));
        String last = Edges.alone(2) + ";man ma prince at a;man mb prince at a;man mc prince at a;man md prince at b;stray s at b";
        e.answers(last, "surely(0): the last man, by four FITS", 3, x -> x.surely(0));
        e.answers(last.replace("mc prince at a", "mc prince at b"), "surely(0): two", -2, x -> x.surely(0));
        e.noSuch("surely", Edges.FULL_STRAYS, (x, i) -> x.surely(i));
        e.noneInBare("surely", (x, i) -> x.surely(i));
    }

    private static void ask(Edges e) {
        e.says(0, "ASK: the man by whom, it being told whether he SHOT it, at most fewest FITS are left, the first such.");
        // mb has four of five, ma one: either leaves four at most, the first such is ma.
        String oneAndFour = ROW + ";man mb prince at b;stray s at b";
        e.answers(oneAndFour, "ask(0) of one and four", 0, x -> x.ask(0));
        e.answers(oneAndFour, "askLeaves(0) of one and four", 4, x -> x.askLeaves(0));
        // None, four, four: who has none leaves all eight.
        String noneAhead = Edges.alone(2) + ";man ma prince at a;man mb prince at b;man mc prince at b;stray s at b";
        e.answers(noneAhead, "ask(0) of none, four, four", 1, x -> x.ask(0));
        // One, one, four of six: the last leaves four, the others five.
        String lastBest = ROW + ";man mb sport at a;walk mb b;walk mb c;walk mb d;man mc prince at b;stray s at b";
        e.answers(lastBest, "ask(0) of one, one, four", 2, x -> x.ask(0));
        e.answers(lastBest, "askLeaves(0) of one, one, four", 4, x -> x.askLeaves(0));

        e.says(36, "ASK; -2 no FITS. NONE: 1.");
        e.answers(NONE_FITS, "ask(0): no FITS", -2, x -> x.ask(0));
        e.answers(NO_MEN, "ask(0) without men", -2, x -> x.ask(0));
        e.answers(ALL, "ask(0) of four like ones", 0, x -> x.ask(0));
        e.answers(ROW + ";stray s at b", "ask(0) of one man", 0, x -> x.ask(0));
        // He alone has FITS, yet whoever is asked, one may be left: the first man.
        e.answers(Edges.alone(2) + ";man ma prince at a;man mb prince at b;stray s at b", "ask(0): the first of like ones", 0, x -> x.ask(0));
        e.noSuch("ask", Edges.FULL_STRAYS, (x, i) -> x.ask(i));
        e.noneInBare("ask", (x, i) -> x.ask(i));
    }

    private static void askLeaves(Edges e) {
        e.says(37, "How many are left at most then; -2 likewise. NONE: 1.");
        e.answers(ALL, "askLeaves(0) of sixteen", 12, x -> x.askLeaves(0));
        e.answers(NONE_FITS, "askLeaves(0): no FITS", -2, x -> x.askLeaves(0));
        e.answers(NO_MEN, "askLeaves(0) without men", -2, x -> x.askLeaves(0));
        e.answers(ROW + ";stray s at b", "askLeaves(0) of one", 1, x -> x.askLeaves(0));
        e.answers(Edges.alone(2) + ";man ma prince at b;man mb prince at b;stray s at b", "askLeaves(0) of eight", 4, x -> x.askLeaves(0));
        e.noSuch("askLeaves", Edges.FULL_STRAYS, (x, i) -> x.askLeaves(i));
        e.noneInBare("askLeaves", (x, i) -> x.askLeaves(i));
    }
}
