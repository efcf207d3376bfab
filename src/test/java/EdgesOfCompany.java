/** Boundary cases of COMPANY, OWING and RINGS: promises 25 to 31. */
final class EdgesOfCompany {
    // A row of seven places; a kill of a prince STANDS where he is.
    private static final String ROW = Edges.row(7) + ";man ma prince at a;man mb prince at g";
    // Four men at one place.
    private static final String FOUR = Edges.BARE + ";man ma sport at a;man mb sport at a;man mc sport at a;man md sport at a";

    private EdgesOfCompany() {
    }

    static void run(Edges e) {
        company(e);
        lonely(e);
        owes(e);
        ring(e);
        ringAt(e);
        amends(e);
        robbed(e);
    }

    /** One kill more, by whom and whom it follows. */
    private static String kill(char name, char by, char follows) {
        String text = ";kill k" + name + " by m" + by + " far 0 worth 0";
        return by == follows ? text : text + ";taken k" + name + " m" + follows;
    }

    /** Debts as pairs of letters: who owes whom. */
    private static String debts(String... pairs) {
        StringBuilder text = new StringBuilder(FOUR);
        for (int i = 0; i < pairs.length; i++) {
            text.append(kill((char) ('a' + i), pairs[i].charAt(1), pairs[i].charAt(0)));
        }
        return text.toString();
    }

    private static void company(Edges e) {
        e.says(0, "COMPANY within so many steps: the fewest kills such that each man has one of them STANDING no further from him (by paths): "
                + "of like ones the least bits.");
        String both = ROW + kill('a', 'a', 'a') + kill('b', 'b', 'b');
        e.answers(both, "company(6): either, the least bits", 1, x -> x.company(6));
        e.answers(both, "company(5): both", 3, x -> x.company(5));
        // The third, halfway, is one for both: fewer go ahead of less.
        e.answers(both + ";man mc prince at d" + kill('c', 'c', 'c'), "company(3): fewer", 4, x -> x.company(3));
        e.answers(both + ";man mc prince at d" + kill('c', 'c', 'c'), "company(2): one each", 7, x -> x.company(2));
        e.answers(both + ";man mc prince at a" + kill('c', 'c', 'c'), "company(0): the first and the second, not the third", 3,
                x -> x.company(0));

        e.says(25, "COMPANY within so many steps (0 .. 7), as bits; -2 all aren't enough.");
        e.answers(ROW + kill('a', 'a', 'a'), "company(6)", 1, x -> x.company(6));
        e.answers(ROW + kill('a', 'a', 'a'), "company(5): not enough", -2, x -> x.company(5));
        e.answers(ROW, "company(7) without kills", -2, x -> x.company(7));
        e.answers(Edges.BARE, "company(0) without men: none is needed", 0, x -> x.company(0));
        e.answers(Edges.BARE, "company(7) without men", 0, x -> x.company(7));
        e.answers(Edges.alone(2) + ";man ma prince at a;man mb prince at b" + kill('a', 'a', 'a'), "company(7) without a way", -2,
                x -> x.company(7));
        e.answers(ROW.replace("dark", "lit") + kill('a', 'a', 'a'), "company(7) when it STANDS nowhere", -2, x -> x.company(7));
        e.answers(FOUR + EdgesOfNow.kills(6, "ma", 0), "company(0): one of six", 1, x -> x.company(0));

        e.says(25, "NONE: 1 (no FOREST); 2.");
        e.refuses(Edges.NO_FOREST, "company(0)", 1, x -> x.company(0));
        e.refuses(Edges.NO_FOREST, "company(8)", 1, x -> x.company(8));
        e.bounds("company", 0, 7, (x, i) -> x.company(i));
        e.refuses(Edges.BARE, "company(8) without men", 2, x -> x.company(8));
    }

    private static void lonely(Edges e) {
        e.says(26, "The man whose nearest kill STANDS farthest (none at all: farther than any), the first such; -2 nobody is there.");
        e.answers(Edges.BARE, "lonely() without men", -2, KillFollows::lonely);
        e.answers(ROW, "lonely() without kills: the first", 0, KillFollows::lonely);
        e.answers(ROW + kill('a', 'a', 'a'), "lonely(): the second", 1, KillFollows::lonely);
        e.answers(ROW + kill('a', 'b', 'b'), "lonely(): the first", 0, KillFollows::lonely);
        e.answers(ROW + kill('a', 'a', 'a') + kill('b', 'b', 'b'), "lonely(): like ones, the first", 0, KillFollows::lonely);
        e.answers(ROW + kill('a', 'a', 'a') + kill('b', 'b', 'b') + ";man mc sport at b", "lonely(): one step is farther than none", 2,
                KillFollows::lonely);
        String away = Edges.row(6) + ";place z dark holds 0;man ma prince at a;man mb sport at f;man mc sport at z" + kill('a', 'a', 'a');
        e.answers(away, "lonely(): no way is farther than five steps", 2, KillFollows::lonely);
        e.answers(ROW.replace("dark", "lit") + kill('a', 'b', 'b'), "lonely() when it STANDS nowhere: the first", 0, KillFollows::lonely);

        e.says(26, "NONE: 1 (no FOREST).");
        e.refuses(Edges.NO_FOREST, "lonely()", 1, KillFollows::lonely);
    }

    private static void owes(Edges e) {
        e.says(0, "OWING: one who is followed by a kill that another one SHOT owes it to him.");
        e.answers(debts("ab"), "owes(0)", 2, x -> x.owes(0));
        e.answers(debts("ab"), "owes(1): to whom it is owed", 0, x -> x.owes(1));
        e.answers(debts("aa"), "owes(0): his own", 0, x -> x.owes(0));

        e.says(27, "Men to whom a man owes, as bits. NONE: 1.");
        e.answers(FOUR, "owes(3) without kills", 0, x -> x.owes(3));
        e.answers(debts("da", "db", "dc"), "owes(3): all others", 7, x -> x.owes(3));
        e.answers(debts("ad", "ad", "ad"), "owes(0): one man, three times", 8, x -> x.owes(0));
        KillFollows x = e.told(debts("ab"));
        x.take(0, 1);
        e.due("owes(0) when it is given back", x.owes(0), 0);
        x.take(0, 2);
        e.due("owes(2) when it is taken again", x.owes(2), 2);
        e.noSuch("owes", Edges.FULL_MEN, (y, i) -> y.owes(i));
        e.noneInBare("owes", (y, i) -> y.owes(i));
    }

    private static void ring(Edges e) {
        e.says(0, "RING through a man: he owes the next one, that one the next .., the last one him: the fewest men (2 or more), "
                + "of like ones the first row by men, one by one.");
        e.answers(debts("ab", "ba"), "ring(0) of two", 2, x -> x.ring(0));
        e.answers(debts("ab", "bc", "ca"), "ring(0) of three", 3, x -> x.ring(0));
        e.answers(debts("ab", "bc", "cd", "da"), "ring(0) of four", 4, x -> x.ring(0));
        e.answers(debts("ab", "bc", "ca", "ac"), "ring(0): the fewest men", 2, x -> x.ring(0));
        e.answers(debts("ab", "bc", "ca", "ac"), "ringAt(0, 1): the fewest men", 2, x -> x.ringAt(0, 1));
        e.answers(debts("ad", "da", "ac", "ca"), "ringAt(0, 1): the first row", 2, x -> x.ringAt(0, 1));
        e.answers(debts("ac", "ab", "cd", "bd", "da"), "ringAt(0, 1): the first row of three", 1, x -> x.ringAt(0, 1));
        // Through c there is a ring only by way of d: the first row by the second of its men.
        e.answers(debts("ab", "bd", "bc", "da", "ca"), "ringAt(0, 2): one by one", 2, x -> x.ringAt(0, 2));

        e.says(28, "RING: how many men; -2 there is none.");
        e.answers(FOUR, "ring(0) without kills", -2, x -> x.ring(0));
        e.answers(debts("aa", "bb"), "ring(0): nobody owes himself", -2, x -> x.ring(0));
        e.answers(debts("ab", "bc", "cd"), "ring(0): it isn't closed", -2, x -> x.ring(0));
        e.answers(debts("ab", "bc", "cb"), "ring(0): he owes into one, but isn't in it", -2, x -> x.ring(0));
        e.answers(debts("ab", "bc", "cb"), "ring(1)", 2, x -> x.ring(1));
        e.answers(Edges.BARE + ";man m sport at a;kill k by m far 0 worth 0", "ring(0) of one man", -2, x -> x.ring(0));

        e.says(28, "NONE: 1.");
        e.noSuch("ring", Edges.FULL_MEN, (x, i) -> x.ring(i));
        e.noneInBare("ring", (x, i) -> x.ring(i));
    }

    private static void ringAt(Edges e) {
        e.says(29, "The i-th man of it (0: himself). NONE: 1 (i, too; there is none).");
        String four = debts("ab", "bc", "cd", "da");
        for (int m = 0; m < 4; m++) {
            for (int i = 0; i < 4; i++) {
                int who = m;
                int index = i;
                e.answers(four, "ringAt(" + m + ", " + i + ")", (m + i) % 4, x -> x.ringAt(who, index));
            }
        }
        for (int i : new int[] {-1, 4, Edges.LEAST, Edges.MOST}) {
            e.refuses(four, "ringAt(0, " + i + ")", 1, x -> x.ringAt(0, i));
        }
        // b could come home by two debts, too, but the first man is himself.
        e.answers(debts("ab", "ba", "bc", "ca"), "ringAt(0, 0): himself", 0, x -> x.ringAt(0, 0));
        e.answers(debts("ab", "ba", "bc", "ca"), "ringAt(0, 1)", 1, x -> x.ringAt(0, 1));
        e.refuses(debts("ab", "ba"), "ringAt(0, 2) of two", 1, x -> x.ringAt(0, 2));
        e.refuses(FOUR, "ringAt(0, 0): there is none", 1, x -> x.ringAt(0, 0));
        e.refuses(FOUR, "ringAt(0, -2): there is none", 1, x -> x.ringAt(0, -2));
        for (int m : new int[] {-1, 4, Edges.LEAST, Edges.MOST}) {
            e.refuses(four, "ringAt(" + m + ", 0)", 1, x -> x.ringAt(m, 0));
        }
        e.refuses(Edges.NO_FOREST, "ringAt(0, 0)", 1, x -> x.ringAt(0, 0));
        e.noneInBare("ringAt(.., 0)", (x, i) -> x.ringAt(i, 0));
    }

    private static void amends(Edges e) {
        e.says(30, "How many kills must be TAKEN so that each follows who SHOT it. NONE: 1 (no FOREST).");
        e.refuses(Edges.NO_FOREST, "amends()", 1, KillFollows::amends);
        e.answers(Edges.BARE, "amends() without kills", 0, KillFollows::amends);
        e.answers(debts("aa", "bb"), "amends(): none", 0, KillFollows::amends);
        e.answers(debts("ab", "ba", "cd", "dc", "ac", "ad"), "amends(): all six", 6, KillFollows::amends);
        KillFollows x = e.told(debts("ab", "ba"));
        x.take(0, 1);
        e.due("amends() when one is given back", x.amends(), 1);
    }

    private static void robbed(Edges e) {
        e.says(31, "The man whose TAKING back all that he SHOT makes most worth, the first such; -2 nobody lacks any.");
        e.answers(Edges.BARE, "robbed() without men", -2, KillFollows::robbed);
        e.answers(FOUR, "robbed() without kills", -2, KillFollows::robbed);
        e.answers(debts("aa", "bb"), "robbed(): nobody lacks any", -2, KillFollows::robbed);
        e.answers(debts("ad"), "robbed() of what has no worth", 3, KillFollows::robbed);
        e.answers(debts("da"), "robbed(): the first man", 0, KillFollows::robbed);
        e.answers(debts("ad", "dc"), "robbed() of what has no worth: the first", 2, KillFollows::robbed);
        String worths = FOUR + ";kill ka by mb far 0 worth 20;kill kb by mc far 0 worth 10;kill kc by mc far 0 worth 10;kill kd by ma far 0 worth 20";
        e.answers(worths + ";taken ka ma;taken kb ma;taken kc ma", "robbed(): like ones, the first", 1, KillFollows::robbed);
        e.answers(worths + ";taken kb ma;taken kc ma", "robbed(): both of his count", 2, KillFollows::robbed);
        e.answers(worths + ";taken kb ma", "robbed(): what follows him already is no matter", 2, KillFollows::robbed);
        e.answers(worths + ";taken ka ma;taken kb ma;taken kc ma;taken ka mb", "robbed(): what was given back is no matter", 2,
                KillFollows::robbed);

        e.says(31, "NONE: 1 (no FOREST).");
        e.refuses(Edges.NO_FOREST, "robbed()", 1, KillFollows::robbed);
    }
}
