/** Promises 25 to 31: company, owing, rings, amends. */
public final class CompanyTest {
    // A row a b c d e, one man at each end and one in the middle, and kills of a prince's stand where he is.
    private static final String ROW = "forest dies 0;place a dark holds 9;place b dark holds 9;place c dark holds 9;"
            + "place d dark holds 9;place e dark holds 9;path a b;path b c;path c d;path d e;"
            + "man ma prince at a;man mb prince at c;man mc prince at e";

    // Debts of four men: who is followed by whose.
    private static final String DEBTS = "forest dies 0;place a dark holds 9;"
            + "man ma sport at a;man mb sport at a;man mc sport at a;man md sport at a";

    public static void main(String[] args) {
        Check c = new Check("CompanyTest");
        companies(c);
        lonelies(c);
        debts(c);
        rings(c);
        amending(c);
        robbing(c);
        withoutForest(c);
        c.end();
    }

    private static void companies(Check c) {
        KillFollows x = c.told(ROW + ";kill ka by ma far 0 worth 0;kill kb by mb far 0 worth 0;kill kc by mc far 0 worth 0");
        c.fine("company(0)", x, x.company(0), 7);
        c.due("company(1)", x.company(1), 7);
        c.due("company(2)", x.company(2), 2);
        c.due("company(3)", x.company(3), 2);
        c.due("company(4): the least bits", x.company(4), 1);
        c.due("company(7)", x.company(7), 1);
        x.take(1, 0);
        // At a stand ka and kb, at e kc: two are needed within two or three steps.
        c.due("company(3)", x.company(3), 5);
        c.due("company(2)", x.company(2), 5);
        c.fine("company(1)", x, x.company(1), -2);
        c.refused("company(8)", x, x.company(8), 2);
        c.refused("company(-1)", x, x.company(-1), 2);
        x.light(0, true);
        x.light(4, true);
        c.fine("company(7) when none stands", x, x.company(7), -2);
        x = c.told("forest dies 0;place a dark holds 0;place b dark holds 0;man m prince at a;man n prince at b;"
                + "kill k by m far 0 worth 0");
        c.due("company(7) without a way", x.company(7), -2);
        x = c.told("forest dies 0;place a dark holds 0;man m prince at a");
        c.due("company(0) without kills", x.company(0), -2);
        x = c.told("forest dies 0;place a dark holds 0");
        c.fine("company(0) without men", x, x.company(0), 0);
        x = c.told(ROW + ";man md prince at b;kill ka by ma far 0 worth 0;kill kb by md far 0 worth 0;"
                + "kill kc by mc far 0 worth 0;kill kd by mb far 0 worth 0");
        // Within one step: kb for a, b, c and kc for e; within two kd is enough.
        c.due("company(1): fewer ahead of less", x.company(1), 6);
        c.due("company(2)", x.company(2), 8);
    }

    private static void lonelies(Check c) {
        KillFollows x = c.told(ROW + ";kill ka by ma far 0 worth 0");
        c.fine("lonely()", x, x.lonely(), 2);
        x.take(0, 1);
        c.due("lonely(): the first of like ones", x.lonely(), 0);
        x.take(0, 2);
        c.due("lonely()", x.lonely(), 0);
        x.light(4, true);
        c.due("lonely() when none stands", x.lonely(), 0);
        x = c.told(ROW + ";place f dark holds 0;man md prince at f;kill ka by ma far 0 worth 0;kill kb by ma far 0 worth 0");
        c.due("lonely(): none at all is farther than any", x.lonely(), 3);
        x.take(0, 3);
        x.take(1, 3);
        c.due("lonely(): none at all, the first", x.lonely(), 0);
        x = c.told("forest dies 0;place a dark holds 0");
        c.fine("lonely() without men", x, x.lonely(), -2);
    }

    private static void debts(Check c) {
        KillFollows x = c.told(DEBTS + ";kill ka by ma far 0 worth 0;kill kb by mb far 0 worth 0;"
                + "kill kc by mc far 0 worth 0;taken ka md;taken kb md;taken kc mb");
        c.fine("owes(0)", x, x.owes(0), 0);
        c.due("owes(1)", x.owes(1), 4);
        c.due("owes(2)", x.owes(2), 0);
        c.due("owes(3)", x.owes(3), 3);
        x.take(0, 0);
        c.due("owes(3) when it is given back", x.owes(3), 2);
        c.due("owes(0): not himself", x.owes(0), 0);
        c.refused("owes(4)", x, x.owes(4), 1);
        c.refused("owes(-1)", x, x.owes(-1), 1);
    }

    private static void ringOf(Check c, KillFollows x, int m, int... men) {
        c.fine("ring(" + m + ")", x, x.ring(m), men.length == 0 ? -2 : men.length);
        for (int i = 0; i < men.length; i++) {
            c.fine("ringAt(" + m + ", " + i + ")", x, x.ringAt(m, i), men[i]);
        }
        c.refused("ringAt(" + m + ", " + men.length + ")", x, x.ringAt(m, men.length), 1);
        c.refused("ringAt(" + m + ", -1)", x, x.ringAt(m, -1), 1);
    }

    private static void rings(Check c) {
        // a owes b, b owes c, c owes a; d owes a.
        KillFollows x = c.told(DEBTS + ";kill ka by mb far 0 worth 0;kill kb by mc far 0 worth 0;"
                + "kill kc by ma far 0 worth 0;kill kd by ma far 0 worth 0;"
                + "taken ka ma;taken kb mb;taken kc mc;taken kd md");
        ringOf(c, x, 0, 0, 1, 2);
        ringOf(c, x, 1, 1, 2, 0);
        ringOf(c, x, 2, 2, 0, 1);
        ringOf(c, x, 3);
        c.refused("ring(4)", x, x.ring(4), 1);
        c.refused("ring(-1)", x, x.ring(-1), 1);
        c.refused("ringAt(4, 0)", x, x.ringAt(4, 0), 1);
        c.refused("ringAt(-1, 0)", x, x.ringAt(-1, 0), 1);
        // b owes a too: the ring of two is shorter, but not through c.
        x = c.told(DEBTS + ";kill ka by mb far 0 worth 0;kill kb by mc far 0 worth 0;"
                + "kill kc by ma far 0 worth 0;kill kd by ma far 0 worth 0;"
                + "taken ka ma;taken kb mb;taken kc mc;taken kd mb");
        ringOf(c, x, 0, 0, 1);
        ringOf(c, x, 1, 1, 0);
        ringOf(c, x, 2, 2, 0, 1);
        // a owes c and b, both owe d, d owes a: the first row goes by b.
        x = c.told(DEBTS + ";kill ka by mc far 0 worth 0;kill kb by mb far 0 worth 0;kill kc by md far 0 worth 0;"
                + "kill kd by md far 0 worth 0;kill ke by ma far 0 worth 0;"
                + "taken ka ma;taken kb ma;taken kc mb;taken kd mc;taken ke md");
        ringOf(c, x, 0, 0, 1, 3);
        ringOf(c, x, 1, 1, 3, 0);
        ringOf(c, x, 2, 2, 3, 0);
        ringOf(c, x, 3, 3, 0, 1);
        // a owes b and c, only c owes a.
        x = c.told(DEBTS + ";kill ka by mb far 0 worth 0;kill kb by mc far 0 worth 0;kill kc by ma far 0 worth 0;"
                + "taken ka ma;taken kb ma;taken kc mc");
        ringOf(c, x, 0, 0, 2);
        ringOf(c, x, 1);
        ringOf(c, x, 2, 2, 0);
        // A ring of all four, the other way round.
        x = c.told(DEBTS + ";kill ka by md far 0 worth 0;kill kb by ma far 0 worth 0;kill kc by mb far 0 worth 0;"
                + "kill kd by mc far 0 worth 0;taken ka ma;taken kb mb;taken kc mc;taken kd md");
        ringOf(c, x, 0, 0, 3, 2, 1);
        ringOf(c, x, 2, 2, 1, 0, 3);
        x.take(3, 2);
        ringOf(c, x, 0);
    }

    private static void amending(Check c) {
        KillFollows x = c.told(Check.SHARED);
        c.fine("amends()", x, x.amends(), 1);
        x.take(0, 1);
        x.take(1, 1);
        c.due("amends()", x.amends(), 3);
        x.take(3, 3);
        c.due("amends()", x.amends(), 2);
        x = c.told("forest dies 0;place a dark holds 0");
        c.fine("amends() without kills", x, x.amends(), 0);
    }

    private static void robbing(Check c) {
        KillFollows x = c.told(Check.SHARED);
        c.fine("robbed()", x, x.robbed(), 3);
        x.take(0, 1);
        c.due("robbed(): 3 of sid's, 4 of max's", x.robbed(), 3);
        x.take(1, 1);
        c.due("robbed(): 12 of sid's", x.robbed(), 0);
        x.take(0, 0);
        x.take(1, 0);
        x.take(3, 3);
        c.fine("robbed(): nobody", x, x.robbed(), -2);
        x = c.told(DEBTS + ";kill ka by mc far 0 worth 0;taken ka ma");
        c.due("robbed() of what has no worth", x.robbed(), 2);
        x = c.told(DEBTS + ";kill ka by mc far 0 worth 5;kill kb by mb far 0 worth 2;kill kc by mb far 0 worth 3;"
                + "taken ka ma;taken kb ma;taken kc ma");
        c.due("robbed(): the first of like ones", x.robbed(), 1);
        x = c.told("forest dies 0;place a dark holds 0");
        c.fine("robbed() without men", x, x.robbed(), -2);
    }

    private static void withoutForest(Check c) {
        KillFollows x = new KillFollows();
        c.refused("company(0)", x, x.company(0), 1);
        c.refused("company(9)", x, x.company(9), 1);
        c.refused("lonely()", x, x.lonely(), 1);
        c.refused("owes(0)", x, x.owes(0), 1);
        c.refused("ring(0)", x, x.ring(0), 1);
        c.refused("ringAt(0, 0)", x, x.ringAt(0, 0), 1);
        c.refused("amends()", x, x.amends(), 1);
        c.refused("robbed()", x, x.robbed(), 1);
    }
}
