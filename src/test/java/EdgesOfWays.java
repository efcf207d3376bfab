/** Boundary cases of ways, ways UNSEEN and CUTS: promises 14 to 20. */
final class EdgesOfWays {
    // A row of seven places, m at one end.
    private static final String ROW = Edges.row(7) + ";man m sport at a";
    // From a to d by b or by c; e is by itself.
    private static final String TWO_WAYS = Edges.alone(5) + ";path a b;path a c;path b d;path c d;man m sport at a";
    // Five ways of two STEPS from a to g, and no other.
    private static final String FIVE_WAYS = Edges.alone(7) + ";path a b;path a c;path a d;path a e;path a f;path g b;path g c;path g d;"
            + "path g e;path g f;man m sport at a";

    private EdgesOfWays() {
    }

    static void run(Edges e) {
        apart(e);
        next(e);
        unseen(e);
        safe(e);
        cut(e);
        middle(e);
        parts(e);
    }

    private static void apart(Edges e) {
        e.says(14, "The fewest steps from one place to another one (0: itself); -2 there is no way.");
        for (int p = 0; p < 7; p++) {
            int there = p;
            e.answers(ROW, "apart(0, " + p + ") in a row", p, x -> x.apart(0, there));
            e.answers(ROW, "apart(" + p + ", 0) in a row", p, x -> x.apart(there, 0));
            e.answers(ROW, "apart(" + p + ", " + p + ")", 0, x -> x.apart(there, there));
            e.answers(Edges.alone(7), "apart(0, " + p + ") without paths", p == 0 ? 0 : -2, x -> x.apart(0, there));
        }
        e.answers(ROW + ";path a g", "apart(0, 6) in a round", 1, x -> x.apart(0, 6));
        e.answers(ROW + ";path a g", "apart(0, 4) in a round", 3, x -> x.apart(0, 4));

        e.says(14, "NONE: 1.");
        e.noSuch("apart(.., 0)", Edges.FULL_PLACES, (x, i) -> x.apart(i, 0));
        e.noSuch("apart(0, ..)", Edges.FULL_PLACES, (x, i) -> x.apart(0, i));
        e.refuses(Edges.BARE, "apart(1, 1) of one", 1, x -> x.apart(1, 1));
    }

    private static void next(Edges e) {
        e.says(15, "The NEIGHBOUR at which a shortest way of a man to a place begins, the first such; -2 he is there, or there is none.");
        e.answers(ROW, "next(0, 6), the longest way", 1, x -> x.next(0, 6));
        e.answers(ROW, "next(0, 1), a NEIGHBOUR", 1, x -> x.next(0, 1));
        e.answers(TWO_WAYS, "next(0, 3), the first of two", 1, x -> x.next(0, 3));
        e.answers(FIVE_WAYS, "next(0, 6), the first of five", 1, x -> x.next(0, 6));
        e.answers(TWO_WAYS.replace("path a b", "path d e"), "next(0, 3), the only one", 2, x -> x.next(0, 3));
        e.answers(ROW, "next(0, 0): he is there", -2, x -> x.next(0, 0));
        e.answers(TWO_WAYS, "next(0, 4): there is none", -2, x -> x.next(0, 4));
        e.answers(Edges.BARE + ";man m sport at a", "next(0, 0) of one place", -2, x -> x.next(0, 0));

        e.says(15, "NONE: 1.");
        e.noSuch("next(.., 0)", Edges.FULL_MEN, (x, i) -> x.next(i, 0));
        e.noSuch("next(0, ..)", Edges.FULL_PLACES, (x, i) -> x.next(0, i));
        e.noneInBare("next(.., 0)", (x, i) -> x.next(i, 0));
    }

    private static void unseen(Edges e) {
        e.says(0, "UNSEEN: ways by NEIGHBOURS on which no place but the first has a kill STAND NOW that follows another man.");
        String seen = ROW + ";man n prince at d;kill k by n far 0 worth 0";
        e.answers(seen, "unseen(0, 2): ahead of it", 2, x -> x.unseen(0, 2));
        e.answers(seen, "unseen(0, 3): at it", -2, x -> x.unseen(0, 3));
        e.answers(seen, "unseen(0, 4): behind it", -2, x -> x.unseen(0, 4));
        e.answers(seen, "unseen(1, 0): of him whom it follows", 3, x -> x.unseen(1, 0));
        String own = ROW + ";walk m b;walk m c;kill k by m far 1 worth 0;man n sport at c";
        e.answers(own, "unseen(0, 0): his own on the way", 2, x -> x.unseen(0, 0));
        e.answers(own, "unseen(1, 0): another one's on the way", -2, x -> x.unseen(1, 0));
        e.answers(seen.replace("at a", "at d"), "unseen(0, 0): from where it STANDS", 3, x -> x.unseen(0, 0));
        KillFollows x = e.told(seen);
        x.take(0, 0);
        e.due("unseen(0, 6): it follows him", x.unseen(0, 6), 6);
        e.due("unseen(1, 0): another one's at a", x.unseen(1, 0), -2);
        x.undo();
        x.light(3, true);
        e.due("unseen(0, 6): it STANDS nowhere", x.unseen(0, 6), 6);
        // NOW it stands elsewhere.
        x.undo();
        x.step(1, 2);
        e.due("unseen(0, 2) NOW", x.unseen(0, 2), -2);
        e.due("unseen(0, 1) NOW", x.unseen(0, 1), 1);

        e.says(16, "The fewest steps of an UNSEEN way of a man to a place (0: he is there); -2 there is none.");
        e.answers(seen, "unseen(0, 0)", 0, y -> y.unseen(0, 0));
        e.answers(ROW, "unseen(0, 6), the longest", 6, y -> y.unseen(0, 6));
        e.answers(TWO_WAYS, "unseen(0, 4): no way at all", -2, y -> y.unseen(0, 4));
        e.answers(TWO_WAYS + ";man n prince at b;kill k by n far 0 worth 0", "unseen(0, 3) by the other way", 2, y -> y.unseen(0, 3));
        e.answers(ROW + ";path a g;man n prince at b;kill k by n far 0 worth 0", "unseen(0, 2) the long way round", 5, y -> y.unseen(0, 2));

        e.says(16, "NONE: 1.");
        e.noSuch("unseen(.., 0)", Edges.FULL_MEN, (y, i) -> y.unseen(i, 0));
        e.noSuch("unseen(0, ..)", Edges.FULL_PLACES, (y, i) -> y.unseen(0, i));
        e.noneInBare("unseen(.., 0)", (y, i) -> y.unseen(i, 0));
    }

    private static void safe(Edges e) {
        e.says(17, "Places to which there are UNSEEN ways, as bits, his too. NONE: 1.");
        e.answers(ROW, "safe(0): all seven", 127, x -> x.safe(0));
        e.answers(Edges.alone(7) + ";man m sport at g", "safe(0): only his", 64, x -> x.safe(0));
        e.answers(ROW + ";man n prince at b;kill k by n far 0 worth 0", "safe(0): shut in", 1, x -> x.safe(0));
        e.answers(ROW + ";man n prince at a;kill k by n far 0 worth 0", "safe(0): his, too, with another one's kill", 127, x -> x.safe(0));
        e.answers(ROW + ";man n prince at g;kill k by n far 0 worth 0", "safe(0): all but the last", 63, x -> x.safe(0));
        e.noSuch("safe", Edges.FULL_MEN, (x, i) -> x.safe(i));
        e.noneInBare("safe", (x, i) -> x.safe(i));
    }

    private static void cut(Edges e) {
        e.says(0, "CUT of a man and a place: the fewest places (but his and that) without which there is no way for him: of like ones the least bits.");
        e.answers(ROW, "cut(0, 2): one", 2, x -> x.cut(0, 2));
        e.answers(ROW, "cut(0, 6): of five the least", 2, x -> x.cut(0, 6));
        e.answers(ROW.replace("man m sport at a", "man m sport at g"), "cut(0, 0): of five the least", 2, x -> x.cut(0, 0));
        e.answers(TWO_WAYS, "cut(0, 3): two", 6, x -> x.cut(0, 3));
        e.answers(FIVE_WAYS, "cut(0, 6): five", 62, x -> x.cut(0, 6));
        // Fewer go ahead of less: f (32) alone and not b and c (6).
        e.answers(Edges.alone(7) + ";path a b;path a c;path b f;path c f;path f g;man m sport at a", "cut(0, 6): fewer", 32,
                x -> x.cut(0, 6));

        e.says(18, "CUT, as bits; -2 there is none (he is there, or it is a NEIGHBOUR).");
        e.answers(ROW, "cut(0, 0): he is there", -2, x -> x.cut(0, 0));
        e.answers(ROW, "cut(0, 1): a NEIGHBOUR", -2, x -> x.cut(0, 1));
        e.answers(ROW + ";path a g", "cut(0, 6): a NEIGHBOUR by another way, too", -2, x -> x.cut(0, 6));
        e.answers(TWO_WAYS, "cut(0, 4): there is no way, so none must go", 0, x -> x.cut(0, 4));

        e.says(18, "NONE: 1.");
        e.noSuch("cut(.., 0)", Edges.FULL_MEN, (x, i) -> x.cut(i, 0));
        e.noSuch("cut(0, ..)", Edges.FULL_PLACES, (x, i) -> x.cut(0, i));
        e.noneInBare("cut(.., 0)", (x, i) -> x.cut(i, 0));
    }

    private static void middle(Edges e) {
        e.says(19, "The place from which the farthest place one can come to is nearest, the first such.");
        e.answers(Edges.BARE, "middle() of one", 0, KillFollows::middle);
        e.answers(Edges.alone(7), "middle() without paths: the first", 0, KillFollows::middle);
        e.answers(Edges.row(7), "middle() of seven in a row", 3, KillFollows::middle);
        e.answers(Edges.row(6), "middle() of six in a row: the first", 2, KillFollows::middle);
        e.answers(Edges.row(3), "middle() of three in a row", 1, KillFollows::middle);
        e.answers(Edges.row(2) + ";place z dark holds 0", "middle(): itself is nearer than one step", 2, KillFollows::middle);
        e.answers(Edges.row(7) + ";path g a", "middle() of a round: the first", 0, KillFollows::middle);
        e.answers(Edges.row(6) + ";place g dark holds 0", "middle(): the last comes to itself alone", 6, KillFollows::middle);
        e.answers(Edges.alone(7) + ";path g a;path g b;path g c;path g d;path g e;path g f", "middle() of a star: the last", 6,
                KillFollows::middle);

        e.says(19, "NONE: 1 (no FOREST).");
        e.refuses(Edges.NO_FOREST, "middle()", 1, KillFollows::middle);
    }

    private static void parts(Edges e) {
        e.says(20, "How many parts the forest has, each without a way to another one. NONE: 1 (no FOREST).");
        e.refuses(Edges.NO_FOREST, "parts()", 1, KillFollows::parts);
        for (int n = 1; n <= 7; n++) {
            e.answers(Edges.alone(n), "parts() of " + n + " without paths", n, KillFollows::parts);
            e.answers(Edges.row(n), "parts() of " + n + " in a row", 1, KillFollows::parts);
        }
        e.answers(Edges.alone(7) + ";path a g;path b f;path c e", "parts()", 4, KillFollows::parts);
    }
}
