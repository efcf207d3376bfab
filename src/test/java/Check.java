/** What the tests share: telling a forest as a text, and counting answers that aren't as due. */
final class Check {
    /** The forest of the first run under ../shared/tests: five places, four men, four kills, two strays. */
    static final String SHARED = "forest dies 50;place lodge lit holds 1;place lawn dark holds 2;"
            + "place ride dark holds 1;place wood dark holds 9;place pond dark holds 0;"
            + "path lodge lawn;path lawn ride;path ride wood;path lawn wood;"
            + "man sid sport at wood;man kim keeper at lodge;man pat poacher at pond;man max prince at lawn;"
            + "walk sid ride;walk sid lawn;walk sid lodge;walk kim lawn;"
            + "kill hare by sid far 1 worth 3;kill stag by sid far 3 worth 9;"
            + "kill coot by kim far 0 worth 2;kill tern by max far 2 worth 4;taken tern pat;"
            + "stray doe at ride;stray owl at pond";

    private final String test;
    private String about = "";
    private int checked;
    private int wrong;

    Check(String test) {
        this.test = test;
    }

    /** What the next checks are about, told with those that aren't as due. */
    void about(String words) {
        about = words + ": ";
    }

    int checked() {
        return checked;
    }

    /** Feeds a text, filled up with blanks to whole feeds: how many bytes THE TAPE has. */
    static int feed(KillFollows x, String text) {
        StringBuilder whole = new StringBuilder(text);
        while (whole.length() % 20 != 0) {
            whole.append(' ');
        }
        int bytes = x.size(11);
        for (int i = 0; i < whole.length(); i += 20) {
            bytes = x.feed(number(whole, i), number(whole, i + 4), number(whole, i + 8),
                    number(whole, i + 12), number(whole, i + 16));
        }
        return bytes;
    }

    private static int number(CharSequence text, int from) {
        int number = 0;
        for (int i = from; i < from + 4; i++) {
            number = number << 8 | text.charAt(i) & 255;
        }
        return number;
    }

    static int tell(KillFollows x, String text) {
        feed(x, text);
        return x.forest(text.length());
    }

    KillFollows told(String text) {
        KillFollows x = new KillFollows();
        int places = tell(x, text);
        checked++;
        if (places < 0) {
            wrong++;
            System.out.println(test + ": " + about + "fault " + x.fault() + " at " + x.where() + " in: " + text);
        }
        return x;
    }

    void due(String call, long got, long want) {
        checked++;
        if (got != want) {
            wrong++;
            System.out.println(test + ": " + about + call + " answered " + got + ", due is " + want);
        }
    }

    void due(String call, boolean got, boolean want) {
        due(call, got ? 1 : 0, want ? 1 : 0);
    }

    /** A refused call answers so, and its trouble is told. */
    void refused(String call, KillFollows x, long got, long want, int trouble) {
        due(call, got, want);
        due(call + ", then trouble()", x.trouble(), trouble);
    }

    void refused(String call, KillFollows x, long got, int trouble) {
        refused(call, x, got, KillFollows.NONE, trouble);
    }

    void fine(String call, KillFollows x, long got, long want) {
        due(call, got, want);
        due(call + ", then trouble()", x.trouble(), 0);
    }

    void fault(String text, int fault, int where) {
        KillFollows x = new KillFollows();
        refused("forest of '" + text + "'", x, tell(x, text), 4);
        due("fault() of '" + text + "'", x.fault(), fault);
        due("where() of '" + text + "'", x.where(), where);
    }

    void end() {
        System.out.println(test + ": " + checked + " answers looked at, " + wrong + " not as due");
        if (wrong != 0 || checked == 0) {
            System.exit(1);
        }
    }
}
