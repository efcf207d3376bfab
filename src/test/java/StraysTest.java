/** Promises 32 to 37: whose a stray is, and whom to ask. */
public final class StraysTest {
    // sid's trail: c b a a ..; kim's: b a a ..; pat's: c b a a ..; max is at c.
    private static final String TEXT = "forest dies 0;place a dark holds 9;place b lit holds 9;place c dark holds 9;"
            + "path a b;path b c;man sid sport at a;man kim keeper at a;man pat poacher at a;man max prince at c;"
            + "walk sid b;walk sid c;walk kim b;walk pat b;walk pat c;"
            + "stray sa at a;stray sb at b;stray sc at c";

    public static void main(String[] args) {
        Check c = new Check("StraysTest");
        ofShared(c);
        allMen(c);
        asTold(c);
        asking(c);
        wrong(c);
        c.end();
    }

    private static void fitsAre(Check c, KillFollows x, int s, int... due) {
        c.fine("fits(" + s + ")", x, x.fits(s), due.length);
        for (int i = 0; i < due.length; i++) {
            c.fine("fitAt(" + s + ", " + i + ")", x, x.fitAt(s, i), due[i]);
        }
        c.refused("fitAt(" + s + ", " + due.length + ")", x, x.fitAt(s, due.length), 1);
        c.refused("fitAt(" + s + ", -1)", x, x.fitAt(s, -1), 1);
    }

    private static void ofShared(Check c) {
        KillFollows x = c.told(Check.SHARED);
        fitsAre(c, x, 0, 2);
        c.fine("could(0)", x, x.could(0), 1);
        c.fine("surely(0)", x, x.surely(0), 0);
        c.fine("ask(0)", x, x.ask(0), 0);
        c.fine("askLeaves(0)", x, x.askLeaves(0), 1);
        fitsAre(c, x, 1, 20, 21, 22, 23);
        c.due("could(1)", x.could(1), 4);
        c.due("surely(1)", x.surely(1), 2);
        c.due("ask(1): all leave four", x.ask(1), 0);
        c.due("askLeaves(1)", x.askLeaves(1), 4);
    }

    private static void allMen(Check c) {
        KillFollows x = c.told(TEXT);
        // At a: sid one (out of the light at b), two, three behind; kim always; pat two, four, six behind.
        fitsAre(c, x, 0, 1, 2, 3, 10, 11, 12, 13, 21, 22, 23);
        c.due("could(0)", x.could(0), 7);
        c.due("surely(0)", x.surely(0), -2);
        c.due("ask(0): kim has four of ten", x.ask(0), 1);
        c.due("askLeaves(0)", x.askLeaves(0), 6);
        // Nothing stands in the light.
        fitsAre(c, x, 1);
        c.fine("could(1)", x, x.could(1), 0);
        c.fine("surely(1)", x, x.surely(1), -2);
        c.fine("ask(1)", x, x.ask(1), -2);
        c.fine("askLeaves(1)", x, x.askLeaves(1), -2);
        fitsAre(c, x, 2, 0, 20, 30, 31, 32, 33);
        c.due("could(2)", x.could(2), 13);
        c.due("surely(2)", x.surely(2), -2);
        c.due("ask(2): max has four of six", x.ask(2), 3);
        c.due("askLeaves(2)", x.askLeaves(2), 4);
    }

    private static void asTold(Check c) {
        KillFollows x = c.told(TEXT);
        x.light(0, true);
        x.light(1, false);
        x.step(3, 1);
        x.step(0, 2);
        fitsAre(c, x, 0, 1, 2, 3, 10, 11, 12, 13, 21, 22, 23);
        fitsAre(c, x, 1);
        fitsAre(c, x, 2, 0, 20, 30, 31, 32, 33);
        c.due("could(2)", x.could(2), 13);
        c.due("ask(2)", x.ask(2), 3);
        c.due("surely(2)", x.surely(2), -2);
        // What is told behind a stray counts too: it was seen behind all that is told.
        x = c.told("forest dies 0;place a dark holds 9;place b dark holds 9;path a b;man m prince at a;"
                + "stray s at b;walk m b");
        fitsAre(c, x, 0, 0, 1, 2, 3);
        c.due("surely(0)", x.surely(0), 0);
        // A man behind the stray counts too.
        x = c.told("forest dies 0;place a dark holds 9;stray s at a;man m prince at a");
        fitsAre(c, x, 0, 0, 1, 2, 3);
    }

    private static void asking(Check c) {
        // m nothing, n four, o four: asking n leaves four, m all eight.
        KillFollows x = c.told("forest dies 0;place a dark holds 9;place b dark holds 9;man m prince at b;"
                + "man n prince at a;man o prince at a;stray s at a");
        c.due("ask(0)", x.ask(0), 1);
        c.due("askLeaves(0)", x.askLeaves(0), 4);
        c.due("could(0)", x.could(0), 6);
        x = c.told("forest dies 0;place a dark holds 9;stray s at a");
        c.due("fits(0) without men", x.fits(0), 0);
        c.due("ask(0) without men", x.ask(0), -2);
        c.due("surely(0) without men", x.surely(0), -2);
    }

    private static void wrong(Check c) {
        KillFollows x = c.told(TEXT);
        KillFollows none = new KillFollows();
        for (int s = -1; s <= 3; s += 4) {
            c.refused("fits(" + s + ")", x, x.fits(s), 1);
            c.refused("fitAt(" + s + ", 0)", x, x.fitAt(s, 0), 1);
            c.refused("could(" + s + ")", x, x.could(s), 1);
            c.refused("surely(" + s + ")", x, x.surely(s), 1);
            c.refused("ask(" + s + ")", x, x.ask(s), 1);
            c.refused("askLeaves(" + s + ")", x, x.askLeaves(s), 1);
        }
        c.refused("fits(0) of none", none, none.fits(0), 1);
        c.refused("fitAt(0, 0) of none", none, none.fitAt(0, 0), 1);
        c.refused("could(0) of none", none, none.could(0), 1);
        c.refused("surely(0) of none", none, none.surely(0), 1);
        c.refused("ask(0) of none", none, none.ask(0), 1);
        c.refused("askLeaves(0) of none", none, none.askLeaves(0), 1);
    }
}
