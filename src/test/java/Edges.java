import java.io.IOException;
import java.nio.file.Files;
import java.nio.file.Path;
import java.util.ArrayList;
import java.util.List;
import java.util.regex.Matcher;
import java.util.regex.Pattern;

/**
 * Boundary cases by the document's own words: each case begins with the sentence that it is about, which
 * must stand in DOC.md. At the end no word of a promise, and no boundary of the TERMS, may be without a case.
 */
final class Edges {
    /** What is told ahead of the promises: "What it is" and "Terms". */
    static final int TERMS = 0;
    static final int PROMISES = 55;
    static final int LEAST = Integer.MIN_VALUE;
    static final int MOST = Integer.MAX_VALUE;

    /** No FOREST: a new object. */
    static final String NO_FOREST = null;
    /** A FOREST with as little in it as there can be. */
    static final String BARE = "forest dies 0;place a dark holds 0";
    /** A FOREST with as much of each sort as there can be; each man comes back to where he was told to be. */
    static final String FULL = "forest dies 100" + places(7) + ";path a b;path b c;path c d;path d e;path e f;path f g;"
            + "path g a;path a d;path b e;path c f;"
            + "man ma sport at a;man mb keeper at b;man mc poacher at c;man md prince at d;"
            + "walk ma b;walk ma c;walk ma b;walk ma a;walk mb c;walk mb b;walk mc d;walk mc c;"
            + "walk md e;walk md f;walk md e;walk md d;"
            + "kill ka by ma far 0 worth 20;kill kb by ma far 3 worth 20;kill kc by mb far 0 worth 20;"
            + "kill kd by mb far 3 worth 20;kill ke by mc far 3 worth 20;kill kf by md far 3 worth 0;"
            + "taken ka mb;taken ka ma;taken kc ma;taken kc mb;taken kf ma;taken kf md;"
            + "stray sa at a;stray sb at b;stray sc at c";
    static final int FULL_PLACES = 7;
    static final int FULL_MEN = 4;
    static final int FULL_KILLS = 6;
    static final int FULL_STRAYS = 3;

    // What in the TERMS names a boundary: a range, a limit, a refusal, nothing to be found, the first of like ones.
    private static final Pattern BOUNDARY = Pattern.compile("\\d[\\d,]* \\.\\. |\\.\\. seven|\\d to \\d|up to \\d|at most \\d"
            + "|\\d+ bytes|\\(16 are kept\\)|nothing can be|mod 65,537|\\d or more|ahead of|at the end|none\\b|nowhere|more than"
            + "|out of bounds|again|already|isn't|refused|fewest|the first|least|like ones|-1\\b");

    private final Check check = new Check("EdgesTest");
    private final String[] sections = new String[PROMISES + 1];
    private final boolean[][] quoted = new boolean[PROMISES + 1][];
    private int casesBegun;
    private int checkedAhead;

    /** A call with its arguments. */
    interface Call {
        long of(KillFollows x);
    }

    /** A call with one argument open. */
    interface CallWith {
        long of(KillFollows x, int i);
    }

    Edges() throws IOException {
        String doc = Files.readString(Path.of("../shared/DOC.md")).replaceAll("\\s+", " ");
        String face = between(doc, "## The public face", "## Terms");
        sections[TERMS] = between(doc, "## What it is", "## Promise 1:").replace(face, "");
        for (int n = 1; n <= PROMISES; n++) {
            sections[n] = between(doc, "## Promise " + n + ":", n == PROMISES ? "## Not promised" : "## Promise " + (n + 1) + ":");
        }
        for (int n = 0; n <= PROMISES; n++) {
            quoted[n] = new boolean[sections[n].length()];
        }
    }

    private static String between(String text, String from, String to) {
        return text.substring(text.indexOf(from), text.indexOf(to));
    }

    static String places(int n) {
        StringBuilder text = new StringBuilder();
        for (int p = 0; p < n; p++) {
            text.append(";place ").append((char) ('a' + p)).append(" dark holds 9");
        }
        return text.toString();
    }

    /** So many dark places that hold nine, without paths. */
    static String alone(int n) {
        return "forest dies 0" + places(n);
    }

    /** So many dark places that hold nine, a path from each to the next one. */
    static String row(int n) {
        StringBuilder text = new StringBuilder(alone(n));
        for (int p = 1; p < n; p++) {
            text.append(";path ").append((char) ('a' + p - 1)).append(' ').append((char) ('a' + p));
        }
        return text.toString();
    }

    // ---- cases

    /** From here on the checks are about this sentence of a promise, or of the TERMS. */
    void says(int section, String words) {
        endCase();
        casesBegun++;
        int from = sections[section].indexOf(words);
        check.about("promise " + section + ", '" + words + "'");
        check.due("stands in DOC.md", from >= 0, true);
        checkedAhead = check.checked();
        for (int i = Math.max(from, 0); i < from + words.length(); i++) {
            quoted[section][i] = true;
        }
    }

    /** From here on the checks are about something that isn't told in DOC.md. */
    void beside(String words) {
        endCase();
        casesBegun++;
        check.about(words);
        checkedAhead = check.checked();
    }

    private void endCase() {
        check.due("is looked at", casesBegun == 0 || check.checked() > checkedAhead, true);
    }

    KillFollows told(String text) {
        return text == null ? new KillFollows() : check.told(text);
    }

    void due(String call, long got, long want) {
        check.due(call, got, want);
    }

    void due(String call, boolean got, boolean want) {
        check.due(call, got, want);
    }

    /** The answer on a new object, not refused. */
    void answers(String text, String call, long want, Call c) {
        KillFollows x = told(text);
        x.place(-1, 0);
        check.fine(call, x, c.of(x), want);
    }

    /** Refused on a new object, which stays as it was. */
    void refuses(String text, String call, long want, int trouble, Call c) {
        KillFollows x = told(text);
        String ahead = state(x) + x.fault();
        // Another trouble stands ahead, so that it is seen who told this one.
        if (trouble == 2) {
            x.place(-1, 0);
        } else {
            x.forest(-1);
        }
        check.refused(call, x, c.of(x), want, trouble);
        check.due(call + " changes nothing", (state(x) + x.fault()).equals(ahead), true);
    }

    void refuses(String text, String call, int trouble, Call c) {
        refuses(text, call, KillFollows.NONE, trouble, c);
    }

    void fault(String text, int fault, int where) {
        check.fault(text, fault, where);
    }

    /** Of so many of FULL: the last one is there, the next is refused by 1, as are those far out and all without a FOREST. */
    void noSuch(String call, int count, long want, CallWith c) {
        inside(call, 0, count - 1, c);
        for (int i : new int[] {-1, count, LEAST, MOST}) {
            refuses(FULL, call + " of " + i, want, 1, x -> c.of(x, i));
        }
        refuses(NO_FOREST, call + " without a FOREST", want, 1, x -> c.of(x, 0));
    }

    void noSuch(String call, int count, CallWith c) {
        noSuch(call, count, KillFollows.NONE, c);
    }

    /** In BARE, which has none of them, not even the first one is there. */
    void noneInBare(String call, CallWith c) {
        refuses(BARE, call + " of 0 of none", 1, x -> c.of(x, 0));
    }

    /** A number by FULL: the least and the greatest are fine, those next to them are refused by 2. */
    void bounds(String call, int least, int greatest, long want, CallWith c) {
        inside(call, least, greatest, c);
        for (int i : new int[] {least - 1, greatest + 1, LEAST, MOST}) {
            refuses(FULL, call + " of " + i, want, 2, x -> c.of(x, i));
        }
    }

    void bounds(String call, int least, int greatest, CallWith c) {
        bounds(call, least, greatest, KillFollows.NONE, c);
    }

    private void inside(String call, int least, int greatest, CallWith c) {
        for (int i : new int[] {least, greatest}) {
            KillFollows x = told(FULL);
            x.place(-1, 0);
            c.of(x, i);
            check.due(call + " of " + i + ", then trouble()", x.trouble(), 0);
        }
    }

    static long bit(boolean is) {
        return is ? 1 : 0;
    }

    static int led(KillFollows x, int i) {
        try {
            return x.led(i);
        } catch (java.util.NoSuchElementException e) {
            return -9;
        }
    }

    /** All that can be seen of an object, but for its latest trouble and FAULT. */
    static String state(KillFollows x) {
        StringBuilder all = new StringBuilder();
        for (int what = 0; what <= 11; what++) {
            all.append(x.size(what)).append(' ');
        }
        for (int p = 0; p < x.size(1); p++) {
            for (int what = 0; what <= 5; what++) {
                all.append(x.place(p, what)).append(' ');
            }
        }
        for (int m = 0; m < x.size(3); m++) {
            for (int ago = 0; ago <= 7; ago++) {
                all.append(x.trail(m, ago)).append(' ');
            }
        }
        for (int k = 0; k < x.size(4); k++) {
            for (int what = 0; what <= 5; what++) {
                all.append(x.kill(k, what)).append(' ');
            }
        }
        for (int s = 0; s < x.size(5); s++) {
            all.append(x.fits(s)).append(' ').append(x.could(s)).append(' ');
        }
        return all.toString();
    }

    // ---- the end

    private List<String> unquotedBoundaries() {
        List<String> found = new ArrayList<>();
        Matcher matcher = BOUNDARY.matcher(sections[TERMS]);
        while (matcher.find()) {
            if (!quoted[TERMS][matcher.start()]) {
                int to = Math.min(matcher.start() + 40, sections[TERMS].length());
                found.add(sections[TERMS].substring(matcher.start(), to));
            }
        }
        return found;
    }

    /** What no case quotes of a promise, behind its heading and the call's face. */
    private String unquoted(int promise) {
        StringBuilder left = new StringBuilder();
        String face = "`: ";
        for (int i = sections[promise].indexOf(face) + face.length(); i < sections[promise].length(); i++) {
            left.append(quoted[promise][i] ? "" : sections[promise].charAt(i));
        }
        return left.toString().trim();
    }

    void end() {
        endCase();
        check.about("TERMS");
        List<String> boundaries = unquotedBoundaries();
        check.due("boundaries without a case: " + boundaries, boundaries.size(), 0);
        for (int n = 1; n <= PROMISES; n++) {
            check.about("promise " + n);
            String left = unquoted(n);
            check.due("words without a case: " + left, left.length(), 0);
        }
        System.out.println("EdgesTest: " + casesBegun + " sentences of the document");
        check.end();
    }
}
