/** Promises 1 to 5: a new object, THE TAPE, the text of a FOREST and its FAULTS. */
public final class TextTest {
    private static final String BASE = "forest dies 0;place p dark holds 1;place q lit holds 1;path p q;"
            + "man m sport at p;kill k by m far 0 worth 0;";

    public static void main(String[] args) {
        Check c = new Check("TextTest");
        newObject(c);
        feeding(c);
        telling(c);
        faultStays(c);
        form(c);
        longRuns(c);
        untold(c);
        again(c);
        bounds(c);
        many(c);
        lacks(c);
        apart(c);
        names(c);
        c.end();
    }

    private static void newObject(Check c) {
        KillFollows x = new KillFollows();
        for (int what = 0; what <= 11; what++) {
            c.due("size(" + what + ") of a new one", x.size(what), 0);
        }
        c.due("trouble() of a new one", x.trouble(), 0);
        c.due("fault() of a new one", x.fault(), 0);
        c.due("where() of a new one", x.where(), -1);
        c.refused("crowded() of a new one", x, x.crowded(), 1);
        c.refused("undo() of a new one", x, x.undo() ? 1 : 0, 0, 6);
        c.refused("back(0) of a new one", x, x.back(0) ? 1 : 0, 0, 1);
    }

    private static void feeding(Check c) {
        KillFollows x = new KillFollows();
        for (int i = 1; i <= 45; i++) {
            c.due("feed " + i, x.feed(0x20202020, 0x20202020, 0x20202020, 0x20202020, 0x20202020), 20 * i);
        }
        c.due("feed of 900", x.feed(0, 0, 0, 0, 0), -1);
        c.due("trouble() is none of feed's", x.trouble(), 0);
        c.due("size(11)", x.size(11), 900);
        c.refused("forest(901)", x, x.forest(901), 2);
        c.refused("forest(-1)", x, x.forest(-1), 2);
        c.due("feed of 900 again", x.feed(0, 0, 0, 0, 0), -1);
        c.due("trouble() stays", x.trouble(), 2);
        c.due("size(11) stays", x.size(11), 900);
        c.refused("forest(900) of blanks", x, x.forest(900), 4);
        c.due("fault()", x.fault(), 1);
        c.due("where()", x.where(), 900);
        c.due("size(11) behind it", x.size(11), 0);
        c.due("feed behind it", x.feed(1, 2, 3, 4, 5), 20);
        // The highest byte comes first, and bytes above 127 are bytes.
        x = new KillFollows();
        x.feed(0x666f7265, 0x73742064, 0x69657320, 0x303bc3bf, 0xffffffff);
        c.refused("forest(20)", x, x.forest(20), 4);
        c.due("fault()", x.fault(), 1);
        c.due("where()", x.where(), 14);
    }

    private static void telling(Check c) {
        KillFollows x = new KillFollows();
        Check.feed(x, "forest dies 7;place aa dark holds 3;place bb lit holds 4;path aa bb;forest");
        c.fine("forest(67)", x, x.forest(67), 2);
        c.due("size(0)", x.size(0), 7);
        c.due("size(1)", x.size(1), 2);
        c.due("size(2)", x.size(2), 1);
        c.due("size(11)", x.size(11), 0);
        c.due("fault()", x.fault(), 0);
        c.due("where()", x.where(), -1);
        c.due("light(0)", x.light(0, true), true);
        c.due("image()", x.image(), 0);
        c.refused("a wrong one", x, Check.tell(x, "forest dies 7;place aa"), 4);
        c.due("size(11) behind a wrong one", x.size(11), 0);
        c.due("the FOREST stays", x.size(1), 2);
        c.due("ACTS stay", x.size(9), 1);
        c.due("IMAGES stay", x.size(10), 1);
        c.due("its lamps stay", x.place(0, 0), 1);
        c.fine("another one", x, Check.tell(x, "forest dies 9;place only dark holds 0;man m prince at only"), 1);
        c.due("paths are anew", x.place(0, 2), 0);
        c.due("lamps are anew", x.place(0, 0), 0);
        c.due("size(0)", x.size(0), 9);
        c.due("size(2)", x.size(2), 0);
        c.due("size(3)", x.size(3), 1);
        c.due("nothing to undo", x.size(9), 0);
        c.due("no IMAGES", x.size(10), 0);
        c.due("undo()", x.undo(), false);
        c.due("back(0)", x.back(0), false);
        c.fine("a third", x, Check.tell(x, "forest dies 3;place aa lit holds 3;place bb dark holds 4;place cc lit holds 0"), 3);
        for (int p = 0; p < 3; p++) {
            c.due("paths of the first one are gone", x.place(p, 2), 0);
        }
        c.due("lamps as told", x.place(0, 0) + 2 * x.place(1, 0) + 4 * x.place(2, 0), 5);
        c.due("no men of the one before", x.size(3), 0);
        c.fine("blanks mean nothing", x, Check.tell(x, "  forest   dies100 ;place a dark holds9 ;  place b lit holds 009  "), 2);
        c.due("size(0)", x.size(0), 100);
        c.due("holds", x.place(1, 1), 9);
    }

    private static void faultStays(Check c) {
        KillFollows x = new KillFollows();
        Check.tell(x, "forest dies 101");
        c.due("fault()", x.fault(), 4);
        c.due("where()", x.where(), 12);
        c.due("where() again", x.where(), 12);
        x.size(0);
        x.feed(0, 0, 0, 0, 0);
        c.due("where() behind calls that can't be refused", x.where(), 12);
        c.refused("forest(21)", x, x.forest(21), 2);
        c.due("fault() behind 2", x.fault(), 4);
        c.due("where() behind 2", x.where(), -1);
        c.refused("forest(0)", x, x.forest(0), 4);
        c.due("fault() of nothing", x.fault(), 1);
        c.due("where() of nothing", x.where(), 0);
        x.undo();
        c.due("where() behind another refusal", x.where(), -1);
        c.due("fault() behind another refusal", x.fault(), 1);
    }

    private static void form(Check c) {
        c.fault("", 1, 0);
        c.fault("    ", 1, 4);
        c.fault(";", 1, 0);
        c.fault("7", 1, 0);
        c.fault("wood", 1, 0);
        c.fault("Forest dies 0", 1, 0);
        c.fault("forest", 1, 6);
        c.fault("forest  ", 1, 8);
        c.fault("forest 0", 1, 7);
        c.fault("forest die 0", 1, 7);
        c.fault("forest dies", 1, 11);
        c.fault("forest dies x", 1, 12);
        c.fault("forest dies -1", 1, 12);
        c.fault("forest dies 0 0", 1, 14);
        c.fault("forest dies 0;", 1, 14);
        c.fault("forest dies 0;;", 1, 14);
        c.fault("forest dies 0;wood", 1, 14);
        c.fault("forest dies 0;place", 1, 19);
        c.fault("forest dies 0;place 1", 1, 20);
        c.fault("forest dies 0;place p", 1, 21);
        c.fault("forest dies 0;place p lit", 1, 25);
        c.fault("forest dies 0;place p fit", 1, 22);
        c.fault("forest dies 0;place p lie", 1, 22);
        c.fault("forest dies 0;place p mark", 1, 22);
        c.fault("forest dies 0;place p darks", 1, 22);
        c.fault("forest dies 0;place p dar", 1, 22);
        c.fault("forest lies 0", 1, 7);
        c.fault(BASE + "man n sports at p", 1, BASE.length() + 6);
        c.fault(BASE + "man n sport it p", 1, BASE.length() + 12);
        c.fault(BASE + "maa n sport at p", 1, BASE.length());
        c.fault("forest dies 0;place p lit hold 1", 1, 26);
        c.fault("forest dies 0;place p lit holds", 1, 31);
        c.fault("forest dies 0;place p lit holds;", 1, 31);
        c.fault("forest dies 0;place p lit holds 1,", 1, 33);
        c.fault("forest dies 0;place p\tlit holds 1", 1, 21);
        String[] reserved = {"forest", "place", "path", "man", "walk", "kill", "taken", "stray"};
        for (String word : reserved) {
            c.fault(BASE + "place " + word, 1, BASE.length() + 6);
            c.fault(BASE + "path " + word, 1, BASE.length() + 5);
            c.fault(BASE + "path p " + word, 1, BASE.length() + 7);
            c.fault(BASE + "man " + word, 1, BASE.length() + 4);
            c.fault(BASE + "walk " + word, 1, BASE.length() + 5);
            c.fault(BASE + "kill " + word, 1, BASE.length() + 5);
            c.fault(BASE + "taken " + word, 1, BASE.length() + 6);
            c.fault(BASE + "stray " + word, 1, BASE.length() + 6);
        }
        for (String name : new String[] {"p", "q", "m", "k"}) {
            c.fault(BASE + name, 1, BASE.length());
            c.fault(BASE + name + " dark holds 1", 1, BASE.length());
        }
        c.fault(BASE + "path p", 1, BASE.length() + 6);
        c.fault(BASE + "path p;", 1, BASE.length() + 6);
        c.fault(BASE + "man n", 1, BASE.length() + 5);
        c.fault(BASE + "man n at p", 1, BASE.length() + 6);
        c.fault(BASE + "man n prince by p", 1, BASE.length() + 13);
        c.fault(BASE + "man n prince at 1", 1, BASE.length() + 16);
        c.fault(BASE + "walk m", 1, BASE.length() + 6);
        c.fault(BASE + "walk m 1", 1, BASE.length() + 7);
        c.fault(BASE + "walk m q q", 1, BASE.length() + 9);
        c.fault(BASE + "kill l at m", 1, BASE.length() + 7);
        c.fault(BASE + "kill l by m", 1, BASE.length() + 11);
        c.fault(BASE + "kill l by m worth 1", 1, BASE.length() + 12);
        c.fault(BASE + "kill l by m far x", 1, BASE.length() + 16);
        c.fault(BASE + "kill l by m far 1", 1, BASE.length() + 17);
        c.fault(BASE + "kill l by m far 1 far 1", 1, BASE.length() + 18);
        c.fault(BASE + "kill l by m far 1 worth", 1, BASE.length() + 23);
        c.fault(BASE + "taken k", 1, BASE.length() + 7);
        c.fault(BASE + "stray s by p", 1, BASE.length() + 8);
        c.fault(BASE + "stray s at", 1, BASE.length() + 10);
        c.fault(BASE + "stray s at 2", 1, BASE.length() + 11);
    }

    private static void longRuns(Check c) {
        c.fault("forest dies 0;place abcdefghi dark holds 1", 1, 20);
        c.fault("forest dies 1000", 1, 12);
        c.fault("forest dies 0000", 1, 12);
        c.fault("forest dies 0;place p dark holds 0001", 1, 33);
        KillFollows x = c.told("forest dies 000;place abcdefgh dark holds 1;place abcdefg dark holds 1;path abcdefg abcdefgh");
        c.due("two names", x.size(1), 2);
    }

    private static void untold(Check c) {
        c.fault(BASE + "path z q", 2, BASE.length() + 5);
        c.fault(BASE + "path p z", 2, BASE.length() + 7);
        c.fault(BASE + "path m q", 2, BASE.length() + 5);
        c.fault(BASE + "path z z", 2, BASE.length() + 5);
        c.fault(BASE + "man n prince at n", 2, BASE.length() + 16);
        c.fault(BASE + "man n prince at m", 2, BASE.length() + 16);
        c.fault(BASE + "walk p p", 2, BASE.length() + 5);
        c.fault(BASE + "walk m m", 2, BASE.length() + 7);
        c.fault(BASE + "kill l by k", 2, BASE.length() + 10);
        c.fault(BASE + "kill l by l", 2, BASE.length() + 10);
        c.fault(BASE + "taken m m", 2, BASE.length() + 6);
        c.fault(BASE + "taken k k", 2, BASE.length() + 8);
        c.fault(BASE + "stray s at p;taken s m", 2, BASE.length() + 19);
        c.fault(BASE + "stray s at k", 2, BASE.length() + 11);
        c.fault("forest dies 0;place p dark holds 1;path p q;place q dark holds 1", 2, 42);
    }

    private static void again(Check c) {
        c.fault("forest dies 0;forest dies 0", 3, 14);
        c.fault(BASE + "forest", 3, BASE.length());
        c.fault(BASE + "place k dark holds 1", 3, BASE.length() + 6);
        c.fault(BASE + "man p sport at p", 3, BASE.length() + 4);
        c.fault(BASE + "man m sport at p", 3, BASE.length() + 4);
        c.fault(BASE + "kill q by m far 1 worth 1", 3, BASE.length() + 5);
        c.fault(BASE + "kill k by m far 1 worth 1", 3, BASE.length() + 5);
        c.fault(BASE + "stray m at p", 3, BASE.length() + 6);
        c.fault(BASE + "stray s at p;stray s at p", 3, BASE.length() + 19);
        c.fault(BASE + "path p p", 3, BASE.length() + 7);
        c.fault(BASE + "path p q", 3, BASE.length() + 7);
        c.fault(BASE + "path q p", 3, BASE.length() + 7);
        c.fault(BASE + "taken k m", 3, BASE.length() + 8);
        c.fault(BASE + "man n sport at p;taken k n;taken k n", 3, BASE.length() + 35);
        c.told(BASE + "man n sport at p;taken k n;taken k m;taken k n");
    }

    private static void bounds(Check c) {
        c.fault("forest dies 101", 4, 12);
        c.fault("forest dies 101;place", 4, 12);
        c.fault("forest dies 999", 4, 12);
        c.fault("forest dies 0;place p dark holds 10", 4, 33);
        c.fault("forest dies 0;place p dark holds 10 7", 4, 33);
        c.fault(BASE + "kill l by m far 4 worth 0", 4, BASE.length() + 16);
        c.fault(BASE + "kill l by m far 3 worth 21", 4, BASE.length() + 24);
        c.told(BASE + "kill l by m far 3 worth 20");
    }

    private static String lines(String line, int many) {
        StringBuilder text = new StringBuilder();
        for (int i = 0; i < many; i++) {
            text.append(';').append(line.replace('#', (char) ('a' + i)));
        }
        return text.toString();
    }

    private static void many(Check c) {
        String seven = "forest dies 0" + lines("place p# dark holds 0", 7);
        KillFollows x = c.told(seven);
        c.due("size(1)", x.size(1), 7);
        c.fault(seven + ";place", 5, seven.length() + 1);
        c.fault(seven + ";place pa", 5, seven.length() + 1);
        // Without the first, the path of pa to itself.
        String six = seven + lines("path pa p#", 7).substring(";path pa pa".length());
        String ten = six + ";path pb pc;path pb pd;path pb pe;path pb pf";
        x = c.told(ten);
        c.due("size(2)", x.size(2), 10);
        c.fault(ten + ";path pb pg", 5, ten.length() + 1);
        String four = seven + lines("man m# sport at pa", 4);
        x = c.told(four);
        c.due("size(3)", x.size(3), 4);
        c.fault(four + ";man", 5, four.length() + 1);
        String kills = four + lines("kill k# by ma far 0 worth 0", 6);
        x = c.told(kills);
        c.due("size(4)", x.size(4), 6);
        c.fault(kills + ";kill", 5, kills.length() + 1);
        String three = kills + lines("stray s# at pb", 3);
        x = c.told(three);
        c.due("size(5)", x.size(5), 3);
        c.fault(three + ";stray", 5, three.length() + 1);
        String walks = four + ";path pa pb";
        for (int i = 0; i < 6; i++) {
            walks += ";walk ma pb;walk ma pa";
        }
        x = c.told(walks);
        c.due("size(6)", x.size(6), 12);
        c.fault(walks + ";walk mb pa", 5, walks.length() + 1);
        String taken = kills;
        for (int i = 0; i < 3; i++) {
            taken += ";taken ka mb;taken ka ma";
        }
        x = c.told(taken);
        c.due("size(7)", x.size(7), 6);
        c.fault(taken + ";taken", 5, taken.length() + 1);
    }

    private static void lacks(Check c) {
        c.fault("place p dark holds 1;forest dies 0", 6, 0);
        c.fault("  path", 6, 2);
        c.fault("man", 6, 0);
        c.fault("walk", 6, 0);
        c.fault("kill", 6, 0);
        c.fault("taken", 6, 0);
        c.fault("stray", 6, 0);
        c.fault("forest dies 0", 6, 13);
        c.fault("forest dies 0  ", 6, 15);
    }

    private static void apart(Check c) {
        c.fault(BASE + "walk m p", 7, BASE.length() + 7);
        c.fault(BASE + "walk m q;walk m q", 7, BASE.length() + 16);
        c.fault(BASE + "place r dark holds 1;walk m r", 7, BASE.length() + 28);
        c.fault(BASE + "place r dark holds 1;walk m r;path p r", 7, BASE.length() + 28);
        c.told(BASE + "place r dark holds 1;path p r;walk m r");
    }

    private static void names(Check c) {
        KillFollows x = c.told("forest dies 1;place dark dark holds 1;place lit lit holds 2;place holds dark holds 3;"
                + "path dark lit;man dies keeper at dark;man at prince at lit;man sport poacher at dark;"
                + "kill by by at far 2 worth 3;kill far by sport far 3 worth 4;stray worth at holds");
        c.due("size(1)", x.size(1), 3);
        c.due("size(3)", x.size(3), 3);
        c.due("size(4)", x.size(4), 2);
        c.due("size(5)", x.size(5), 1);
        c.due("man(0, 0)", x.man(0, 0), 1);
        c.due("man(1, 0)", x.man(1, 0), 3);
        c.due("man(2, 0)", x.man(2, 0), 2);
        c.due("kill(1, 5)", x.kill(1, 5), 6);
    }
}
