/** Boundary cases of an object's life, of THE TAPE, the text and its FAULTS, and of promises 1 to 5. */
final class EdgesOfText {
    // Each sort of LINE can go on behind it: 107 bytes.
    private static final String BASE = "forest dies 0;place p dark holds 1;place q lit holds 1;path p q;"
            + "man m sport at p;kill k by m far 0 worth 0;";
    private static final int END = BASE.length();
    private static final String[] LINE_WORDS = {"forest", "place", "path", "man", "walk", "kill", "taken", "stray"};

    private EdgesOfText() {
    }

    static void run(Edges e) {
        life(e);
        tape(e);
        tokens(e);
        forestLines(e);
        placeLines(e);
        pathLines(e);
        manLines(e);
        walkLines(e);
        killLines(e);
        takenLines(e);
        strayLines(e);
        names(e);
        faultsOneToThree(e);
        faultsFourToSeven(e);
        firstFault(e);
        newObject(e);
        feed(e);
        forest(e);
        fault(e);
        where(e);
    }

    private static void life(Edges e) {
        e.says(0, "An object is used for at most 512 calls after it has been made");
        String text = "forest dies 0;place a dark holds 0;man m sport at a";
        KillFollows x = new KillFollows();
        Check.tell(x, text);
        // As many feeds as there are twenties, and forest(); Check.feed asks for a size too.
        int calls = (text.length() + 19) / 20 + 2;
        int steps = 511 - calls;
        for (int i = 0; i < steps; i++) {
            x.step(0, 0);
        }
        e.due("size(8), the 512th call", x.size(8), steps);
    }

    private static void tape(Edges e) {
        e.says(0, "THE TAPE has 900 bytes");
        String first = "forest dies 9;";
        String last = "place a dark holds 7";
        String whole = first + " ".repeat(900 - first.length() - last.length()) + last;
        KillFollows x = new KillFollows();
        e.due("forest(900), the last byte a digit", Check.tell(x, whole), 1);
        e.due("place(0, 1)", x.place(0, 1), 7);
        x = new KillFollows();
        e.due("forest(900), the last byte wrong", Check.tell(x, whole.substring(0, 899) + "!"), -1);
        e.due("where() at the last byte", x.where(), 899);
        x = new KillFollows();
        e.due("forest(900), the last byte a ;", Check.tell(x, whole.replace("  p", " p") + ";"), -1);
        e.due("where() at the end", x.where(), 900);

        e.says(0, "blanks, 32, part TOKENS and mean nothing else");
        for (int b = 0; b < 256; b++) {
            String text = "forest" + (char) b + "dies 0;place a dark holds 0";
            boolean isLetter = b >= 'a' && b <= 'z';
            if (b == 32) {
                e.answers(text, "parts()", 1, KillFollows::parts);
            } else {
                e.fault(text, 1, isLetter ? 0 : 6);
            }
        }
        e.answers("   forest   dies   0   ;   place   a   dark   holds   0   ", "parts() of many blanks", 1, KillFollows::parts);
        e.answers("forest dies0;place a dark holds0", "parts() without a blank ahead of a WHOLE", 1, KillFollows::parts);
        e.fault("for est dies 0", 1, 0);
        e.fault("forest dies 1 0;place a dark holds 0", 1, 14);
        e.fault(" ".repeat(20), 1, 20);
    }

    private static void tokens(Edges e) {
        e.says(0, "WORDS of 1 to 8 small letters that stand together");
        e.answers("forest dies 0;place a dark holds 0;place abcdefgh dark holds 0;path a abcdefgh", "apart(0, 1) of 1 and 8 letters", 1,
                x -> x.apart(0, 1));
        e.answers("forest dies 0;place z dark holds 0;place zzzzzzzz dark holds 0;place zzzzzzz dark holds 0", "parts()", 3,
                KillFollows::parts);
        e.fault("forest dies 0;place abcdefghi dark holds 0", 1, 20);
        e.fault("forest dies 0;place " + "a".repeat(40) + " dark holds 0", 1, 20);
        e.fault("forest dies 0;place aB dark holds 0", 1, 21);
        e.fault("forest dies 0;place A dark holds 0", 1, 20);
        e.fault("forestdie s 0", 1, 0);

        e.says(0, "WHOLES of 1 to 3 digits that do");
        for (String zero : new String[] {"0", "00", "000"}) {
            e.answers("forest dies " + zero + ";place a dark holds " + zero, "place(0, 1)", 0, x -> x.place(0, 1));
        }
        e.answers("forest dies 007;place a dark holds 009", "place(0, 1)", 9, x -> x.place(0, 1));
        e.fault("forest dies 0000;place a dark holds 0", 1, 12);
        e.fault("forest dies 0;place a dark holds 0009", 1, 33);
        e.fault("forest dies 0;place a dark holds " + "1".repeat(30), 1, 33);

        e.says(0, "single ones of ;");
        e.fault("forest dies 0;;place a dark holds 0", 1, 14);
        e.fault(";", 1, 0);

        e.says(0, "LINE {; LINE}");
        e.fault("", 1, 0);
        e.fault("forest dies 0;place a dark holds 0;", 1, 35);
        e.fault("forest dies 0;place a dark holds 0 place b dark holds 0", 1, 35);
        // Behind each TOKEN the text may end: only where a LINE does, and only with a place is it a FOREST.
        String text = BASE + "walk m q;stray s at p;man n prince at q;taken k n";
        for (int n = 1; n <= text.length(); n++) {
            if (n == text.length() || isTokenEnd(text, n)) {
                endsBehind(e, text, n);
            }
        }
    }

    private static boolean isTokenEnd(String text, int n) {
        return text.charAt(n) == ' ' || text.charAt(n) == ';' || text.charAt(n - 1) == ';';
    }

    private static void endsBehind(Edges e, String text, int n) {
        boolean isLine = n == text.length() || text.charAt(n) == ';';
        if (!isLine) {
            e.fault(text.substring(0, n), 1, n);
        } else if (n < 14) {
            e.fault(text.substring(0, n), 6, n);
        } else {
            e.answers(text.substring(0, n), "parts() of a text that ends here", n < 54 ? 1 : n < 63 ? 2 : 1, KillFollows::parts);
        }
    }

    // ---- the LINES

    private static void forestLines(Edges e) {
        e.says(0, "forest dies WHOLE (0 .. 100 in a hundred), ahead of all others");
        for (int dies : new int[] {0, 1, 99, 100}) {
            e.due("size(0)", e.told("forest dies " + dies + ";place a dark holds 0").size(0), dies);
        }
        for (int dies : new int[] {101, 199, 999}) {
            e.fault("forest dies " + dies + ";place a dark holds 0", 4, 12);
        }
        e.fault("place a dark holds 0;forest dies 0", 6, 0);
    }

    private static void placeLines(Edges e) {
        e.says(0, "place NAME LIGHT holds WHOLE (LIGHT: dark, or lit; 0 .. 9; up to 7)");
        e.answers("forest dies 0;place a dark holds 0", "dark", 0, x -> x.place(0, 0));
        e.answers("forest dies 0;place a lit holds 0", "lit", 1, x -> x.place(0, 0));
        for (String light : new String[] {"darks", "dar", "mark", "darl", "li", "litt", "fit", "lip", "dim", "holds", "a", "place"}) {
            e.fault("forest dies 0;place a " + light + " holds 0", 1, 22);
        }
        e.answers("forest dies 0;place a dark holds 0", "holds 0", 0, x -> x.place(0, 1));
        e.answers("forest dies 0;place a dark holds 9", "holds 9", 9, x -> x.place(0, 1));
        e.fault("forest dies 0;place a dark holds 10", 4, 33);
        e.fault("forest dies 0;place a dark holds 999", 4, 33);
        e.answers(Edges.alone(7), "parts() of seven", 7, KillFollows::parts);
        e.fault(Edges.alone(8), 5, Edges.alone(7).length() + 1);
        e.fault(Edges.alone(7) + ";place a", 5, Edges.alone(7).length() + 1);
    }

    private static void pathLines(Edges e) {
        e.says(0, "path PLACE PLACE (unlike; once in whatever order; up to 10)");
        e.fault(Edges.alone(2) + ";path a a", 3, Edges.alone(2).length() + 8);
        e.fault(Edges.row(2) + ";path a b", 3, Edges.row(2).length() + 8);
        e.fault(Edges.row(2) + ";path b a", 3, Edges.row(2).length() + 8);
        e.answers(Edges.row(2), "a to b", 2, x -> x.place(0, 2));
        e.answers(Edges.row(2), "b to a", 1, x -> x.place(1, 2));
        String ten = Edges.row(7) + ";path g a;path a d;path b e;path c f";
        e.due("size(2) of ten", e.told(ten).size(2), 10);
        e.fault(ten + ";path d g", 5, ten.length() + 1);
        e.fault(ten + ";path a a", 5, ten.length() + 1);
    }

    private static void manLines(Edges e) {
        e.says(0, "man NAME KIND at PLACE (KIND: sport, keeper, poacher, or prince; up to 4)");
        String[] kinds = {"sport", "keeper", "poacher", "prince"};
        for (int kind = 0; kind < 4; kind++) {
            e.answers(Edges.BARE + ";man m " + kinds[kind] + " at a", kinds[kind], kind, x -> x.man(0, 0));
        }
        for (String kind : new String[] {"sports", "spor", "aport", "sporn", "princes", "king", "at", "man"}) {
            e.fault(Edges.BARE + ";man m " + kind + " at a", 1, Edges.BARE.length() + 7);
        }
        String four = Edges.BARE + ";man m sport at a;man n sport at a;man o sport at a;man q sport at a";
        e.answers(four, "four", 15, x -> x.place(0, 3));
        e.fault(four + ";man r sport at a", 5, four.length() + 1);
    }

    private static void walkLines(Edges e) {
        e.says(0, "walk MAN PLACE (a NEIGHBOUR of where he is by now; up to 12)");
        String start = Edges.row(3) + ";man m sport at a";
        e.fault(start + ";walk m a", 7, start.length() + 8);
        e.fault(start + ";walk m c", 7, start.length() + 8);
        e.answers(start + ";walk m b;walk m c", "by now", 2, x -> x.man(0, 1));
        e.fault(start + ";walk m b;walk m b", 7, start.length() + 17);
        e.fault(start + ";walk m b;walk m c;walk m a", 7, start.length() + 26);
        String twelve = start + ";walk m b;walk m a".repeat(6);
        e.due("size(6) of twelve", e.told(twelve).size(6), 12);
        e.fault(twelve + ";walk m b", 5, twelve.length() + 1);
        // A path that is told behind the walk is none yet.
        e.fault(Edges.alone(2) + ";man m sport at a;walk m b;path a b", 7, Edges.alone(2).length() + 25);
    }

    private static void killLines(Edges e) {
        e.says(0, "kill NAME by MAN far WHOLE worth WHOLE (0 .. 3; 0 .. 20; up to 6)");
        String man = Edges.BARE + ";man m sport at a";
        for (int far : new int[] {0, 3}) {
            e.answers(man + ";kill k by m far " + far + " worth 0", "far", far, x -> x.kill(0, 2));
        }
        e.fault(man + ";kill k by m far 4 worth 0", 4, man.length() + 17);
        e.fault(man + ";kill k by m far 999 worth 999", 4, man.length() + 17);
        for (int worth : new int[] {0, 20}) {
            e.answers(man + ";kill k by m far 0 worth " + worth, "worth", worth, x -> x.kill(0, 3));
        }
        e.fault(man + ";kill k by m far 0 worth 21", 4, man.length() + 25);
        e.fault(man + ";kill k by m far 0 worth 999", 4, man.length() + 25);
        StringBuilder six = new StringBuilder(man);
        for (char k = 'b'; k < 'h'; k++) {
            six.append(";kill ").append(k).append(" by m far 0 worth 20");
        }
        e.answers(six.toString(), "six", 63, x -> x.man(0, 4));
        e.fault(six + ";kill x by m far 0 worth 0", 5, six.length() + 1);
    }

    private static void takenLines(Edges e) {
        e.says(0, "taken KILL MAN (it follows that one now; up to 6)");
        String two = Edges.BARE + ";man m sport at a;man n sport at a;kill k by m far 0 worth 0";
        e.answers(two + ";taken k n", "follows n", 1, x -> x.kill(0, 1));
        e.answers(two + ";taken k n", "SHOT by m", 0, x -> x.kill(0, 0));
        String six = two + ";taken k n;taken k m".repeat(3);
        e.due("size(7) of six", e.told(six).size(7), 6);
        e.fault(six + ";taken k n", 5, six.length() + 1);
    }

    private static void strayLines(Edges e) {
        e.says(0, "stray NAME at PLACE (where it was seen to stand behind all that is told; up to 3)");
        String three = Edges.BARE + ";stray s at a;stray t at a;stray u at a";
        e.due("size(5) of three", e.told(three).size(5), 3);
        e.fault(three + ";stray v at a", 5, three.length() + 1);
        // He is told behind the stray, and walks behind it: all counts.
        String ahead = Edges.row(2) + ";stray s at b;man m prince at a";
        e.answers(ahead, "fits(0) ahead of the walk", 0, x -> x.fits(0));
        e.answers(ahead + ";walk m b", "fits(0) behind the walk", 4, x -> x.fits(0));
    }

    private static void names(Edges e) {
        e.says(0, "NAMES are WORDS but forest, place, path, man, walk, kill, taken, stray; each told once, ahead of its use.");
        for (String word : LINE_WORDS) {
            e.fault(BASE + "place " + word + " dark holds 0", 1, END + 6);
            e.fault(BASE + "man " + word + " sport at p", 1, END + 4);
            e.fault(BASE + "kill " + word + " by m far 0 worth 0", 1, END + 5);
            e.fault(BASE + "stray " + word + " at p", 1, END + 6);
            e.fault(BASE + "stray s at " + word, 1, END + 11);
            // One letter more or less is a NAME.
            e.answers(BASE + "place " + word + "s dark holds 0;place " + word.substring(1) + " dark holds 0", "parts()", 3,
                    KillFollows::parts);
        }
        e.answers("forest dies 0;place dies dark holds 0;place lit lit holds 0;place holds dark holds 0;path dies lit;"
                + "man sport sport at lit;man at prince at dies;kill by by at far 0 worth 0;kill far by sport far 0 worth 0;"
                + "stray worth at holds", "other WORDS of LINES are NAMES", 2, KillFollows::parts);
        e.fault(BASE + "path p z;place z dark holds 0", 2, END + 7);
        e.fault(BASE + "walk n q;man n sport at p", 2, END + 5);
        e.fault(BASE + "taken l m;kill l by m far 0 worth 0", 2, END + 6);
    }

    // ---- the FAULTS

    private static void faultsOneToThree(Edges e) {
        e.says(0, "1 FORM: the first byte that begins no TOKEN, or TOKEN with which no FOREST goes on (the end: its place).");
        e.fault("!", 1, 0);
        e.fault("forest dies 0;place a dark holds 0!", 1, 34);
        e.fault("forest dies 0;place a dark holds 0 x", 1, 35);
        e.fault("forest dies 0;place a dark holds 0 0", 1, 35);
        e.fault("forest dies 0;place a dark holds", 1, 32);
        e.fault("forest dies 0;place a dark holds   ", 1, 35);
        e.fault("forest dies 0;p dark holds 0", 1, 14);
        for (String name : new String[] {"p", "q", "m", "k"}) {
            e.fault(BASE + name, 1, END);
        }

        e.says(0, "2 a NAME that isn't told, or is of another sort than must stand there; at it.");
        String[] names = {"p", "m", "k", "s", "zzzzzzzz"};
        String base = BASE + "stray s at p;man n sport at p;place r dark holds 0;";
        // Where a PLACE (0), a MAN (1) or a KILL (2) must stand, all others are wrong.
        String[] lines = {"path ", "path r ", "man o sport at ", "stray t at ", "walk n ", "walk ", "kill l by ", "taken k ", "taken "};
        int[] sorts = {0, 0, 0, 0, 0, 1, 1, 1, 2};
        for (int i = 0; i < lines.length; i++) {
            for (int sort = 0; sort < names.length; sort++) {
                if (sort != sorts[i]) {
                    e.fault(base + lines[i] + names[sort], 2, base.length() + lines[i].length());
                }
            }
        }

        e.says(0, "3 a NAME told again; at it;");
        for (int sort = 0; sort < 4; sort++) {
            e.fault(base + "place " + names[sort], 3, base.length() + 6);
            e.fault(base + "man " + names[sort], 3, base.length() + 4);
            e.fault(base + "kill " + names[sort], 3, base.length() + 5);
            e.fault(base + "stray " + names[sort], 3, base.length() + 6);
        }

        e.says(0, "a second PLACE that is the first, or to which there is a path already;");
        e.fault(BASE + "path q q", 3, END + 7);
        e.fault(BASE + "path q p", 3, END + 7);
        e.fault(BASE + "path p q", 3, END + 7);

        e.says(0, "a MAN whom the KILL follows already; at it;");
        e.fault(BASE + "taken k m", 3, END + 8);
        e.fault(BASE + "man n sport at p;taken k n;taken k n", 3, END + 17 + 10 + 8);
        e.answers(BASE + "man n sport at p;taken k n;taken k m", "kill(0, 1)", 0, x -> x.kill(0, 1));

        e.says(0, "a second forest: at that WORD.");
        e.fault("forest dies 0;forest", 3, 14);
        e.fault(BASE + "forest dies 0", 3, END);
    }

    private static void faultsFourToSeven(Edges e) {
        e.says(0, "4 a WHOLE out of bounds; at it.");
        e.fault("forest dies  101", 4, 13);
        e.fault("forest dies 0;place a lit holds 010", 4, 32);
        e.fault(BASE + "kill l by m far 004", 4, END + 16);
        e.fault(BASE + "kill l by m far 3 worth 021", 4, END + 24);

        e.says(0, "5 MANY: a LINE more of its sort than there is room for, at its first WORD.");
        String[] more = {"place", "path", "man", "walk", "kill", "taken", "stray"};
        for (String word : more) {
            e.fault(Edges.FULL + ";  " + word, 5, Edges.FULL.length() + 3);
        }

        e.says(0, "6 LACKS: any LINE ahead of the forest; at its WORD; at the end: no place.");
        for (int i = 1; i < LINE_WORDS.length; i++) {
            e.fault(" " + LINE_WORDS[i] + " a", 6, 1);
        }
        e.fault("forest dies 0", 6, 13);
        e.fault("forest dies 0   ", 6, 16);

        e.says(0, "7 APART: a PLACE of a walk that is no NEIGHBOUR; at it.");
        e.fault(BASE + "walk m p", 7, END + 7);
        e.fault(BASE + "place r dark holds 0;path q r;walk m r", 7, END + 37);
    }

    private static void firstFault(Edges e) {
        e.says(0, "FAULTS, the first that is met from the left, of one place the least number");
        // From the left: a bad byte at the end is no matter if there is another FAULT ahead of it.
        e.fault("forest dies 101!", 4, 12);
        e.fault("place!", 6, 0);
        e.fault("forest dies 0;forest!", 3, 14);
        e.fault(BASE + "path p p!", 3, END + 7);
        e.fault(BASE + "walk m p!", 7, END + 7);
        e.fault(BASE + "path z z", 2, END + 5);
        e.fault(Edges.FULL + ";place!", 5, Edges.FULL.length() + 1);
        // Of one place: FORM ahead of the others, a second forest ahead of MANY, FORM at the end ahead of LACKS.
        e.fault("forest dies 1010", 1, 12);
        e.fault("forest dies 0;", 1, 14);
        e.fault("wood", 1, 0);
        e.fault("placed", 1, 0);
        e.fault("", 1, 0);
        e.fault(BASE + "place forest", 1, END + 6);
    }

    // ---- promises 1 to 5

    private static void newObject(Edges e) {
        e.says(1, "`KillFollows()`: No FOREST.");
        KillFollows x = new KillFollows();
        e.due("trouble()", x.trouble(), 0);
        e.due("fault()", x.fault(), 0);
        e.due("where()", x.where(), -1);
        for (int what = 0; what <= 11; what++) {
            e.due("size(" + what + ")", x.size(what), 0);
        }
        e.due("led(0)", Edges.led(x, 0), -9);
        e.refuses(Edges.NO_FOREST, "parts()", 1, KillFollows::parts);
    }

    private static int fedAs(KillFollows x, int place, int b) {
        int[] n = new int[5];
        for (int i = 0; i < 20; i++) {
            n[i / 4] = n[i / 4] << 8 | (i == place ? b : 32);
        }
        return x.feed(n[0], n[1], n[2], n[3], n[4]);
    }

    private static void feed(Edges e) {
        e.says(2, "Twenty bytes come behind THE TAPE, of each number the highest first: how many it has;");
        for (int place = 0; place < 20; place++) {
            for (int b : new int[] {0, 33, 127, 128, 255}) {
                KillFollows x = new KillFollows();
                e.due("feed of blanks", fedAs(x, -1, 32), 20);
                e.due("feed with " + b, fedAs(x, place, b), 40);
                x.forest(40);
                e.due("where() with " + b + " as byte " + place, x.where(), 20 + place);
            }
        }

        e.says(2, "NONE, and none comes, if there would be more than 900.");
        KillFollows x = new KillFollows();
        for (int i = 1; i <= 45; i++) {
            e.due("feed " + i, fedAs(x, -1, 32), 20 * i);
        }
        e.due("feed 46", fedAs(x, 0, 33), -1);
        e.due("feed 47", fedAs(x, 0, 33), -1);
        e.due("size(11)", x.size(11), 900);
        e.due("trouble(): no number is told of feed", x.trouble(), 0);
        e.due("forest(900)", x.forest(900), -1);
        e.due("where(): no byte came behind the blanks", x.where(), 900);
        e.due("feed of an empty tape", fedAs(x, -1, 32), 20);
        e.due("trouble() behind feed", x.trouble(), 4);
    }

    private static void forest(Edges e) {
        e.says(3, "The first n bytes of THE TAPE (it is empty then) are the FOREST from now on");
        KillFollows x = new KillFollows();
        Check.feed(x, "forest dies 0;place a dark holds 9;place b dark holds 9");
        e.due("forest(34) of 60", x.forest(34), 1);
        e.due("size(11)", x.size(11), 0);
        e.due("size(1)", x.size(1), 1);
        Check.feed(x, "forest dies 0;place a dark holds 19");
        e.due("forest(34) ahead of the last digit", x.forest(34), 1);
        e.due("place(0, 1)", x.place(0, 1), 1);
        Check.feed(x, "forest dies 0;place a dark holds 9");
        e.due("forest(40), the whole of THE TAPE", x.forest(40), 1);
        Check.feed(x, "forest dies 0;place a dark holds 9");
        e.due("forest(0), nothing of THE TAPE", x.forest(0), -1);
        e.due("trouble()", x.trouble(), 4);
        e.due("where()", x.where(), 0);
        e.due("size(11) behind a FAULT", x.size(11), 0);

        e.says(3, "(nothing to undo, no IMAGES): how many places.");
        x = e.told(Edges.FULL);
        x.light(0, true);
        x.step(0, 1);
        x.image();
        e.due("another one", Check.tell(x, Edges.BARE), 1);
        e.due("size(8)", x.size(8), 0);
        e.due("size(9)", x.size(9), 0);
        e.due("size(10)", x.size(10), 0);
        e.due("undo()", x.undo(), false);
        e.due("back(0)", x.back(0), false);
        e.due("image(), the first", x.image(), 0);
        e.due("seven", Check.tell(x, Edges.alone(7)), 7);
        // Nothing is left of the one before, nor of one with a FAULT at its end, whichever it was.
        String lit = Edges.FULL.replace("dark", "lit");
        for (String text : new String[] {lit, Edges.FULL, Edges.BARE, lit, Edges.BARE, Edges.FULL, Edges.alone(7)}) {
            Check.tell(x, text);
            e.due("as of a new object", Edges.state(x).equals(Edges.state(e.told(text))), true);
            Check.tell(x, lit + ";");
            e.due("as it was", Edges.state(x).equals(Edges.state(e.told(text))), true);
        }

        e.says(3, "NONE: 2 (THE TAPE stays); 4 (the FOREST stays).");
        for (int n : new int[] {-1, 41, Edges.LEAST, Edges.MOST}) {
            KillFollows y = e.told(Edges.FULL);
            Check.feed(y, Edges.BARE);
            y.place(-1, 0);
            e.due("forest(" + n + ") of 40", y.forest(n), -1);
            e.due("trouble()", y.trouble(), 2);
            e.due("size(11)", y.size(11), 40);
            e.due("the FOREST", y.size(1), 7);
            e.due("THE TAPE as it was", y.forest(Edges.BARE.length()), 1);
        }
        e.refuses(Edges.NO_FOREST, "forest(1) of an empty tape", 2, y -> y.forest(1));
        KillFollows z = e.told(Edges.FULL);
        z.step(0, 1);
        z.light(6, true);
        z.image();
        String ahead = Edges.state(z);
        e.due("a text with a FAULT at its end", Check.tell(z, Edges.FULL.replace("100", "50").replace("dark", "lit") + ";"), -1);
        e.due("trouble()", z.trouble(), 4);
        e.due("the FOREST stays", Edges.state(z).equals(ahead), true);
        e.due("ACTS can be undone", z.undo() && z.undo(), true);
        e.due("IMAGES stay", z.back(0), true);
    }

    private static void fault(Edges e) {
        e.says(4, "The FAULT of the latest forest() not refused by 2; 0 without one.");
        KillFollows x = new KillFollows();
        e.due("fault() of a new one", x.fault(), 0);
        x.forest(1);
        e.due("fault() behind 2", x.fault(), 0);
        Check.tell(x, "forest dies 0");
        e.due("fault()", x.fault(), 6);
        x.forest(-1);
        e.due("fault() behind 2", x.fault(), 6);
        x.undo();
        e.due("fault() behind another refusal", x.fault(), 6);
        Check.tell(x, Edges.BARE);
        e.due("fault() of a FOREST", x.fault(), 0);
        x.forest(-1);
        e.due("fault() behind 2", x.fault(), 0);
        String[] texts = {"", "forest dies 0;man m sport at a", "forest dies 0;forest", "forest dies 101",
            Edges.FULL + ";place", "forest dies 0", BASE + "walk m p"};
        for (int fault = 1; fault <= 7; fault++) {
            Check.tell(x, texts[fault - 1]);
            e.due("fault()", x.fault(), fault);
        }
    }

    private static void where(Edges e) {
        e.says(5, "Its place, if the latest call that may be refused was by 4; NONE else.");
        KillFollows x = new KillFollows();
        e.due("where() of a new one", x.where(), -1);
        Check.tell(x, "forest dies 101");
        e.due("where()", x.where(), 12);
        x.fault();
        x.trouble();
        x.size(0);
        x.feed(0, 0, 0, 0, 0);
        Edges.led(x, 0);
        e.due("where() behind calls that can't be refused by a number", x.where(), 12);
        x.forest(-1);
        e.due("where() behind a refusal by 2", x.where(), -1);
        x.forest(0);
        e.due("where() at 0", x.where(), 0);
        x.crowded();
        e.due("where() behind a refusal by 1", x.where(), -1);
        Check.tell(x, Edges.BARE);
        e.due("where() of a FOREST", x.where(), -1);
        x.forest(0);
        e.due("where()", x.where(), 0);
        x.crowded();
        e.due("where() behind a call that wasn't refused", x.where(), -1);
    }
}
