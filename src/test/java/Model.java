import java.math.BigInteger;
import java.util.ArrayDeque;
import java.util.ArrayList;
import java.util.Arrays;
import java.util.Deque;
import java.util.HashMap;
import java.util.List;
import java.util.Map;
import java.util.NoSuchElementException;
import java.util.function.IntPredicate;
import java.util.regex.Matcher;
import java.util.regex.Pattern;

/**
 * A second program of the same face, written from the document in the plainest way (histories, copies,
 * tries of everything) and with nothing of the first one, so that random runs can be compared.
 */
public final class Model {
    private static final List<String> RESERVED =
            List.of("forest", "place", "path", "man", "walk", "kill", "taken", "stray");

    /** What a refused call or a fault of the text is told by. */
    private static final class Refusal extends RuntimeException {
        private static final long serialVersionUID = 1;
        final int number;
        final int place;

        Refusal(int number, int place) {
            super(null, null, false, false);
            this.number = number;
            this.place = place;
        }
    }

    private static final class World {
        int dies = -1;
        List<Integer> holds = new ArrayList<>();
        List<Boolean> lit = new ArrayList<>();
        boolean[][] paths = new boolean[7][7];
        int pathCount;
        List<String> kinds = new ArrayList<>();
        List<List<Integer>> histories = new ArrayList<>();
        List<int[]> kills = new ArrayList<>(); // shot, follows, far, worth
        List<Integer> strays = new ArrayList<>();
        int walks;
        int takings;
        int steps;

        World copy() {
            World w = new World();
            w.dies = dies;
            w.holds = new ArrayList<>(holds);
            w.lit = new ArrayList<>(lit);
            for (int p = 0; p < 7; p++) {
                w.paths[p] = paths[p].clone();
            }
            w.pathCount = pathCount;
            w.kinds = new ArrayList<>(kinds);
            for (List<Integer> history : histories) {
                w.histories.add(new ArrayList<>(history));
            }
            for (int[] kill : kills) {
                w.kills.add(kill.clone());
            }
            w.strays = new ArrayList<>(strays);
            w.walks = walks;
            w.takings = takings;
            w.steps = steps;
            return w;
        }

        int at(int m) {
            return ago(m, 0);
        }

        int ago(int m, int n) {
            List<Integer> h = histories.get(m);
            return h.get(Math.max(0, h.size() - 1 - n));
        }

        boolean goes(int m, int p) {
            return p == at(m) || paths[at(m)][p];
        }

        int lag(int m, int far) {
            switch (kinds.get(m)) {
                case "poacher": return 2 * far;
                case "keeper": return far + 1;
                case "prince": return 0;
                default: return far;
            }
        }

        int stands(int m, int far) {
            for (int n = 0; n <= 7; n++) {
                if (n >= lag(m, far) && !lit.get(ago(m, n))) {
                    return ago(m, n);
                }
            }
            return -2;
        }

        int stands(int k) {
            return stands(kills.get(k)[1], kills.get(k)[2]);
        }

        int[][] distances() {
            int n = holds.size();
            int[][] d = new int[n][n];
            for (int p = 0; p < n; p++) {
                for (int q = 0; q < n; q++) {
                    d[p][q] = p == q ? 0 : paths[p][q] ? 1 : 1000;
                }
            }
            for (int r = 0; r < n; r++) {
                for (int p = 0; p < n; p++) {
                    for (int q = 0; q < n; q++) {
                        d[p][q] = Math.min(d[p][q], d[p][r] + d[r][q]);
                    }
                }
            }
            return d;
        }
    }

    private final StringBuilder tape = new StringBuilder();
    private World told = new World();
    private World now = new World();
    private final Deque<World> undos = new ArrayDeque<>();
    private final List<World> images = new ArrayList<>();
    private int trouble;
    private int fault;
    private int where = -1;

    // ---- the text

    private final List<int[]> tokens = new ArrayList<>();
    private final List<String> said = new ArrayList<>();
    private int cursor;
    private Map<String, int[]> names = new HashMap<>();

    public int feed(int a, int b, int c, int d, int e) {
        if (tape.length() + 20 > 900) {
            return -1;
        }
        for (int number : new int[] {a, b, c, d, e}) {
            for (int i = 3; i >= 0; i--) {
                tape.append((char) (number >>> 8 * i & 255));
            }
        }
        return tape.length();
    }

    public int forest(int n) {
        where = -1;
        if (n < 0 || n > tape.length()) {
            trouble = 2;
            return -1;
        }
        String text = tape.substring(0, n);
        tape.setLength(0);
        try {
            World w = parse(text);
            told = w;
            now = w.copy();
            undos.clear();
            images.clear();
            trouble = 0;
            fault = 0;
            return w.holds.size();
        } catch (Refusal r) {
            trouble = 4;
            fault = r.number;
            where = r.place;
            return -1;
        }
    }

    private World parse(String text) {
        tokens.clear();
        said.clear();
        names = new HashMap<>();
        cursor = 0;
        Matcher matcher = Pattern.compile("[a-z]+|[0-9]+|;|[^ ]").matcher(text);
        while (matcher.find()) {
            String token = matcher.group();
            boolean good = token.matches("[a-z]{1,8}|[0-9]{1,3}|;");
            tokens.add(new int[] {matcher.start()});
            said.add(good ? token : "!");
        }
        tokens.add(new int[] {text.length()});
        said.add("");
        World w = new World();
        do {
            line(w);
        } while (separator());
        if (w.holds.isEmpty()) {
            throw faultHere(6);
        }
        return w;
    }

    private Refusal faultHere(int number) {
        return new Refusal(number, tokens.get(cursor)[0]);
    }

    private void demand(boolean is, int number) {
        if (!is) {
            throw faultHere(number);
        }
    }

    private boolean separator() {
        if (said.get(cursor).isEmpty()) {
            return false;
        }
        demand(said.get(cursor).equals(";"), 1);
        cursor++;
        return true;
    }

    private String word(String... due) {
        demand(Arrays.asList(due).contains(said.get(cursor)), 1);
        return said.get(cursor++);
    }

    private int whole(int most) {
        demand(said.get(cursor).matches("[0-9]+"), 1);
        int whole = Integer.parseInt(said.get(cursor));
        demand(whole <= most, 4);
        cursor++;
        return whole;
    }

    private String name() {
        String s = said.get(cursor);
        demand(s.matches("[a-z]+") && !RESERVED.contains(s), 1);
        return s;
    }

    private void newName(char sort, int number) {
        demand(!names.containsKey(name()), 3);
        names.put(name(), new int[] {sort, number});
        cursor++;
    }

    private int oldName(char sort, IntPredicate isFine, int number) {
        int[] entry = names.get(name());
        demand(entry != null && entry[0] == sort, 2);
        demand(isFine.test(entry[1]), number);
        cursor++;
        return entry[1];
    }

    private void line(World w) {
        demand(RESERVED.contains(said.get(cursor)), 1);
        String sort = said.get(cursor);
        if (sort.equals("forest")) {
            demand(w.dies < 0, 3);
            cursor++;
            word("dies");
            w.dies = whole(100);
            return;
        }
        demand(w.dies >= 0, 6);
        switch (sort) {
            case "place": {
                demand(w.holds.size() < 7, 5);
                cursor++;
                newName('p', w.holds.size());
                w.lit.add(word("dark", "lit").equals("lit"));
                word("holds");
                w.holds.add(whole(9));
                break;
            }
            case "path": {
                demand(w.pathCount < 10, 5);
                cursor++;
                int p = oldName('p', i -> true, 0);
                int q = oldName('p', i -> i != p && !w.paths[p][i], 3);
                w.paths[p][q] = true;
                w.paths[q][p] = true;
                w.pathCount++;
                break;
            }
            case "man": {
                demand(w.kinds.size() < 4, 5);
                cursor++;
                newName('m', w.kinds.size());
                w.kinds.add(word("sport", "keeper", "poacher", "prince"));
                word("at");
                w.histories.add(new ArrayList<>(List.of(oldName('p', i -> true, 0))));
                break;
            }
            case "walk": {
                demand(w.walks < 12, 5);
                cursor++;
                int m = oldName('m', i -> true, 0);
                w.histories.get(m).add(oldName('p', i -> w.paths[w.at(m)][i], 7));
                w.walks++;
                break;
            }
            case "kill": {
                demand(w.kills.size() < 6, 5);
                cursor++;
                newName('k', w.kills.size());
                word("by");
                int m = oldName('m', i -> true, 0);
                word("far");
                int far = whole(3);
                word("worth");
                w.kills.add(new int[] {m, m, far, whole(20)});
                break;
            }
            case "taken": {
                demand(w.takings < 6, 5);
                cursor++;
                int[] kill = w.kills.get(oldName('k', i -> true, 0));
                kill[1] = oldName('m', i -> i != kill[1], 3);
                w.takings++;
                break;
            }
            default: {
                demand(w.strays.size() < 3, 5);
                cursor++;
                newName('s', w.strays.size());
                word("at");
                w.strays.add(oldName('p', i -> true, 0));
            }
        }
    }

    public int fault() {
        return fault;
    }

    public int where() {
        return trouble == 4 ? where : -1;
    }

    // ---- refusals

    private interface Answer {
        long of();
    }

    private long answer(Answer a, long refused) {
        try {
            long found = a.of();
            trouble = 0;
            return found;
        } catch (Refusal r) {
            trouble = r.number;
            return refused;
        }
    }

    private int answer(Answer a) {
        return (int) answer(a, -1);
    }

    private static void want(boolean is, int number) {
        if (!is) {
            throw new Refusal(number, -1);
        }
    }

    private static void between(int i, int low, int high, int number) {
        want(i >= low && i <= high, number);
    }

    private void forest() {
        want(!now.holds.isEmpty(), 1);
    }

    private void place(int p) {
        between(p, 0, now.holds.size() - 1, 1);
    }

    private void man(int m) {
        between(m, 0, now.kinds.size() - 1, 1);
    }

    private void kill(int k) {
        between(k, 0, now.kills.size() - 1, 1);
    }

    private void stray(int s) {
        between(s, 0, told.strays.size() - 1, 1);
    }

    private static int bits(int n, IntPredicate is) {
        int bits = 0;
        for (int i = 0; i < n; i++) {
            bits += is.test(i) ? 1 << i : 0;
        }
        return bits;
    }

    private int killBits(IntPredicate is) {
        return bits(now.kills.size(), is);
    }

    private int placeBits(IntPredicate is) {
        return bits(now.holds.size(), is);
    }

    private int menBits(IntPredicate is) {
        return bits(now.kinds.size(), is);
    }

    // ---- now

    private boolean isCrowded(int p) {
        return Integer.bitCount(killBits(k -> now.stands(k) == p)) > now.holds.get(p);
    }

    public int place(int p, int what) {
        return answer(() -> {
            place(p);
            between(what, 0, 5, 1);
            switch (what) {
                case 0: return now.lit.get(p) ? 1 : 0;
                case 1: return now.holds.get(p);
                case 2: return placeBits(q -> now.paths[p][q]);
                case 3: return menBits(m -> now.at(m) == p);
                case 4: return killBits(k -> now.stands(k) == p);
                default: return isCrowded(p) ? 1 : 0;
            }
        });
    }

    public int man(int m, int what) {
        return answer(() -> {
            man(m);
            between(what, 0, 4, 1);
            switch (what) {
                case 0: return List.of("sport", "keeper", "poacher", "prince").indexOf(now.kinds.get(m));
                case 1: return now.at(m);
                case 2: return killBits(k -> now.kills.get(k)[1] == m);
                case 3: return now.kills.stream().filter(k -> k[1] == m).mapToInt(k -> k[3]).sum();
                default: return killBits(k -> now.kills.get(k)[0] == m);
            }
        });
    }

    public int kill(int k, int what) {
        return answer(() -> {
            kill(k);
            between(what, 0, 5, 1);
            int[] kill = now.kills.get(k);
            return what < 4 ? kill[what] : what == 4 ? now.stands(k) : now.lag(kill[1], kill[2]);
        });
    }

    public int trail(int m, int ago) {
        return answer(() -> {
            man(m);
            between(ago, 0, 7, 2);
            return now.ago(m, ago);
        });
    }

    public int crowded() {
        return answer(() -> {
            forest();
            return placeBits(this::isCrowded);
        });
    }

    public int leader() {
        return answer(() -> {
            forest();
            int best = -2;
            for (int m = now.kinds.size() - 1; m >= 0; m--) {
                if (best == -2 || followers(m) >= followers(best)) {
                    best = m;
                }
            }
            return best;
        });
    }

    private long followers(int m) {
        return now.kills.stream().filter(k -> k[1] == m).count();
    }

    public int near(int m) {
        return answer(() -> {
            man(m);
            return killBits(k -> now.stands(k) >= 0 && now.goes(m, now.stands(k)));
        });
    }

    public int room() {
        return answer(() -> {
            forest();
            int room = 0;
            for (int p = 0; p < now.holds.size(); p++) {
                int here = p;
                if (!now.lit.get(p) && !isCrowded(p)) {
                    room += now.holds.get(p) - Integer.bitCount(killBits(k -> now.stands(k) == here));
                }
            }
            return room;
        });
    }

    // ---- ways

    private int steps(int d) {
        return d >= 1000 ? -2 : d;
    }

    public int apart(int p, int q) {
        return answer(() -> {
            place(p);
            place(q);
            return steps(now.distances()[p][q]);
        });
    }

    public int next(int m, int p) {
        return answer(() -> {
            man(m);
            place(p);
            int[][] d = now.distances();
            int from = now.at(m);
            for (int q = 0; q < now.holds.size(); q++) {
                if (now.paths[from][q] && d[from][p] < 1000 && d[q][p] + 1 == d[from][p]) {
                    return q;
                }
            }
            return -2;
        });
    }

    /** The fewest steps by way of everything that may be entered: all simple ways are tried. */
    private int shortest(int from, int to, IntPredicate mayEnter, int been) {
        if (from == to) {
            return 0;
        }
        int best = 1000;
        for (int q = 0; q < now.holds.size(); q++) {
            if (now.paths[from][q] && mayEnter.test(q) && (been >> q & 1) == 0) {
                best = Math.min(best, 1 + shortest(q, to, mayEnter, been | 1 << q));
            }
        }
        return best;
    }

    private boolean isSeen(int m, int p) {
        return killBits(k -> now.stands(k) == p && now.kills.get(k)[1] != m) != 0;
    }

    private int unseenSteps(int m, int p) {
        return shortest(now.at(m), p, q -> !isSeen(m, q), 1 << now.at(m));
    }

    public int unseen(int m, int p) {
        return answer(() -> {
            man(m);
            place(p);
            return steps(unseenSteps(m, p));
        });
    }

    public int safe(int m) {
        return answer(() -> {
            man(m);
            return placeBits(p -> unseenSteps(m, p) < 1000);
        });
    }

    public int cut(int m, int p) {
        return answer(() -> {
            man(m);
            place(p);
            if (now.goes(m, p)) {
                return -2;
            }
            for (int many = 0; many <= 7; many++) {
                for (int cut = 0; cut < 128; cut++) {
                    int without = cut;
                    if (Integer.bitCount(cut) == many && (cut >> p & 1) == 0 && (cut >> now.at(m) & 1) == 0
                            && shortest(now.at(m), p, q -> (without >> q & 1) == 0, 1 << now.at(m)) >= 1000) {
                        return cut;
                    }
                }
            }
            throw new IllegalStateException();
        });
    }

    public int middle() {
        return answer(() -> {
            forest();
            int[][] d = now.distances();
            int best = -1;
            int nearest = 1000;
            for (int p = 0; p < d.length; p++) {
                int far = Arrays.stream(d[p]).filter(i -> i < 1000).max().getAsInt();
                if (far < nearest) {
                    nearest = far;
                    best = p;
                }
            }
            return best;
        });
    }

    public int parts() {
        return answer(() -> {
            forest();
            int[][] d = now.distances();
            int parts = 0;
            for (int p = 0; p < d.length; p++) {
                boolean first = true;
                for (int q = 0; q < p; q++) {
                    first &= d[p][q] >= 1000;
                }
                parts += first ? 1 : 0;
            }
            return parts;
        });
    }

    // ---- luring

    /** Where the kill stands behind the digits, -1 if a step can't be. */
    private int behindRow(int k, String digits) {
        World w = now.copy();
        int m = w.kills.get(k)[1];
        for (char digit : digits.toCharArray()) {
            int p = digit == '0' ? w.at(m) : digit - '1';
            if (!w.goes(m, p)) {
                return -1;
            }
            w.histories.get(m).add(p);
        }
        return w.stands(k);
    }

    public int follows(int k, int row, int n) {
        return answer(() -> {
            kill(k);
            between(n, 0, 6, 2);
            want(row >= 0, 2);
            String digits = n == 0 && row == 0 ? "" : String.format("%0" + Math.max(1, n) + "d", row);
            want(digits.length() == n, 2);
            for (char digit : digits.toCharArray()) {
                between(digit - '0', 0, now.holds.size(), 2);
            }
            int p = behindRow(k, digits);
            want(p != -1, 5);
            return p;
        });
    }

    /** All rows of so many steps, in their order: staying, then neighbours by numbers. */
    private List<String> rows(int from, int n) {
        List<String> rows = new ArrayList<>();
        if (n == 0) {
            rows.add("");
            return rows;
        }
        for (String rest : rows(from, n - 1)) {
            rows.add("0" + rest);
        }
        for (int p = 0; p < now.holds.size(); p++) {
            if (now.paths[from][p]) {
                for (String rest : rows(p, n - 1)) {
                    rows.add((p + 1) + rest);
                }
            }
        }
        return rows;
    }

    private String lureDigits(int k, int p) {
        for (int n = 0; n <= 5; n++) {
            for (String digits : rows(now.at(now.kills.get(k)[1]), n)) {
                if (behindRow(k, digits) == p) {
                    return digits;
                }
            }
        }
        return null;
    }

    public int lure(int k, int p) {
        return answer(() -> {
            kill(k);
            place(p);
            String digits = lureDigits(k, p);
            return digits == null ? -2 : digits.length();
        });
    }

    public int lureRow(int k, int p) {
        return answer(() -> {
            kill(k);
            place(p);
            String digits = lureDigits(k, p);
            return digits == null ? -2 : Integer.parseInt("0" + digits);
        });
    }

    public int lures(int k, int n) {
        return answer(() -> {
            kill(k);
            between(n, 0, 5, 2);
            int bits = 0;
            for (int i = 0; i <= n; i++) {
                for (String digits : rows(now.at(now.kills.get(k)[1]), i)) {
                    int p = behindRow(k, digits);
                    bits |= p < 0 ? 0 : 1 << p;
                }
            }
            return bits;
        });
    }

    // ---- company, owing

    private int away(int m, int k) {
        return now.stands(k) < 0 ? 1000 : now.distances()[now.at(m)][now.stands(k)];
    }

    public int company(int steps) {
        return answer(() -> {
            forest();
            between(steps, 0, 7, 2);
            int[] close = new int[now.kinds.size()];
            for (int m = 0; m < close.length; m++) {
                int man = m;
                close[m] = killBits(k -> away(man, k) <= steps);
            }
            for (int many = 0; many <= 6; many++) {
                for (int kills = 0; kills < 1 << now.kills.size(); kills++) {
                    int set = kills;
                    if (Integer.bitCount(kills) == many && Arrays.stream(close).allMatch(c -> (c & set) != 0)) {
                        return kills;
                    }
                }
            }
            return -2;
        });
    }

    public int lonely() {
        return answer(() -> {
            forest();
            int best = -2;
            int farthest = -1;
            for (int m = 0; m < now.kinds.size(); m++) {
                int nearest = 1000;
                for (int k = 0; k < now.kills.size(); k++) {
                    nearest = Math.min(nearest, away(m, k));
                }
                if (nearest > farthest) {
                    farthest = nearest;
                    best = m;
                }
            }
            return best;
        });
    }

    private boolean isOwing(int m, int n) {
        return m != n && now.kills.stream().anyMatch(k -> k[1] == m && k[0] == n);
    }

    public int owes(int m) {
        return answer(() -> {
            man(m);
            return menBits(n -> isOwing(m, n));
        });
    }

    /** All rows of unlike men that begin so, the shortest first by the caller. */
    private List<Integer> ringFrom(List<Integer> row, int length) {
        int last = row.get(row.size() - 1);
        if (row.size() == length) {
            return isOwing(last, row.get(0)) ? row : null;
        }
        for (int n = 0; n < now.kinds.size(); n++) {
            if (isOwing(last, n) && !row.contains(n)) {
                List<Integer> longer = new ArrayList<>(row);
                longer.add(n);
                List<Integer> found = ringFrom(longer, length);
                if (found != null) {
                    return found;
                }
            }
        }
        return null;
    }

    private List<Integer> ringOf(int m) {
        for (int length = 2; length <= 4; length++) {
            List<Integer> found = ringFrom(List.of(m), length);
            if (found != null) {
                return found;
            }
        }
        return List.of();
    }

    public int ring(int m) {
        return answer(() -> {
            man(m);
            return ringOf(m).isEmpty() ? -2 : ringOf(m).size();
        });
    }

    public int ringAt(int m, int i) {
        return answer(() -> {
            man(m);
            between(i, 0, ringOf(m).size() - 1, 1);
            return ringOf(m).get(i);
        });
    }

    public int amends() {
        return answer(() -> {
            forest();
            return now.kills.stream().filter(k -> k[0] != k[1]).count();
        });
    }

    public int robbed() {
        return answer(() -> {
            forest();
            int best = -2;
            int most = -1;
            for (int m = 0; m < now.kinds.size(); m++) {
                int sum = -1;
                for (int[] kill : now.kills) {
                    if (kill[0] == m && kill[1] != m) {
                        sum = Math.max(sum, 0) + kill[3];
                    }
                }
                if (sum > most) {
                    most = sum;
                    best = m;
                }
            }
            return best;
        });
    }

    // ---- strays

    private List<Integer> fitsOf(int s) {
        stray(s);
        List<Integer> fits = new ArrayList<>();
        for (int m = 0; m < told.kinds.size(); m++) {
            for (int far = 0; far <= 3; far++) {
                if (told.stands(m, far) == told.strays.get(s)) {
                    fits.add(10 * m + far);
                }
            }
        }
        return fits;
    }

    public int fits(int s) {
        return answer(() -> fitsOf(s).size());
    }

    public int fitAt(int s, int i) {
        return answer(() -> {
            List<Integer> fits = fitsOf(s);
            between(i, 0, fits.size() - 1, 1);
            return fits.get(i);
        });
    }

    public int could(int s) {
        return answer(() -> {
            List<Integer> fits = fitsOf(s);
            return menBits(m -> fits.stream().anyMatch(f -> f / 10 == m));
        });
    }

    public int surely(int s) {
        return answer(() -> {
            List<Integer> fits = fitsOf(s);
            return !fits.isEmpty() && fits.stream().allMatch(f -> f / 10 == fits.get(0) / 10) ? fits.get(0) / 10 : -2;
        });
    }

    private long leaves(List<Integer> fits, int m) {
        long yes = fits.stream().filter(f -> f / 10 == m).count();
        long no = fits.stream().filter(f -> f / 10 != m).count();
        return yes > no ? yes : no;
    }

    private int toAsk(int s) {
        List<Integer> fits = fitsOf(s);
        int best = -2;
        for (int m = now.kinds.size() - 1; m >= 0 && !fits.isEmpty(); m--) {
            if (best == -2 || leaves(fits, m) <= leaves(fits, best)) {
                best = m;
            }
        }
        return best;
    }

    public int ask(int s) {
        return answer(() -> toAsk(s));
    }

    public int askLeaves(int s) {
        return answer(() -> toAsk(s) < 0 ? -2 : leaves(fitsOf(s), toAsk(s)));
    }

    // ---- at the edge: by keeper (road, wood), then poacher, what keeper and poacher have

    private static int[][][] table(int w) {
        return new int[][][] {{{0, 0}, {-w, w}}, {{-1, 0}, {3, -w}}};
    }

    private List<Integer> restsOf(int worth) {
        forest();
        between(worth, 0, 20, 2);
        List<Integer> rests = new ArrayList<>();
        int[][][] t = table(worth);
        for (int k = 0; k < 2; k++) {
            for (int p = 0; p < 2; p++) {
                if (t[1 - k][p][0] <= t[k][p][0] && t[k][1 - p][1] <= t[k][p][1]) {
                    rests.add(10 * k + p);
                }
            }
        }
        return rests;
    }

    public int edge(int worth, boolean keeper, boolean poacher, boolean ofPoacher) {
        return (int) answer(() -> {
            forest();
            between(worth, 0, 20, 2);
            return table(worth)[keeper ? 1 : 0][poacher ? 1 : 0][ofPoacher ? 1 : 0];
        }, -100);
    }

    public int rests(int worth) {
        return answer(() -> restsOf(worth).size());
    }

    public int rest(int worth) {
        return answer(() -> restsOf(worth).isEmpty() ? -2 : restsOf(worth).get(0));
    }

    // ---- deaths, rambles

    private static long lowest(BigInteger upper, BigInteger lower, boolean wantsLower) {
        BigInteger g = upper.gcd(lower);
        return (wantsLower ? lower : upper).divide(g).longValueExact();
    }

    /** How likely one man is dead, by ten thousand: he dies in the first year, or lives it and dies in the second. */
    private BigInteger dead(int n) {
        int d = now.dies;
        return BigInteger.valueOf(n == 0 ? 0 : n == 1 ? 100L * d : 100L * d + (100L - d) * d);
    }

    private static final BigInteger WHOLE = BigInteger.valueOf(10000);

    public long breathes(int k, int n, boolean lower) {
        return answer(() -> {
            kill(k);
            between(n, 0, 2, 2);
            return lowest(dead(n), WHOLE, lower);
        }, -1);
    }

    public long silent(int n, boolean lower) {
        return answer(() -> {
            forest();
            between(n, 0, 2, 2);
            int men = now.kinds.size();
            return lowest(dead(n).pow(men), WHOLE.pow(men), lower);
        }, -1);
    }

    public long mean(int n, boolean lower) {
        return answer(() -> {
            forest();
            between(n, 0, 2, 2);
            BigInteger sum = BigInteger.ZERO;
            for (int k = 0; k < now.kills.size(); k++) {
                sum = sum.add(dead(n));
            }
            return lowest(sum, WHOLE, lower);
        }, -1);
    }

    private World ramble(int seed, int n, int[] met) {
        between(seed, 0, 65536, 2);
        between(n, 0, 60, 2);
        World w = now.copy();
        long draw = seed;
        for (int time = 1; time <= n; time++) {
            for (int m = 0; m < w.kinds.size(); m++) {
                List<Integer> goals = new ArrayList<>(List.of(w.at(m)));
                for (int p = 0; p < w.holds.size(); p++) {
                    if (w.paths[w.at(m)][p]) {
                        goals.add(p);
                    }
                }
                draw = (75 * draw + 74) % 65537;
                w.histories.get(m).add(goals.get((int) (draw % goals.size())));
            }
            for (int m = 0; m < w.kinds.size(); m++) {
                for (int o = 0; o < m; o++) {
                    if (w.at(m) == w.at(o) && met[0] < 0) {
                        met[0] = time;
                    }
                }
            }
        }
        return w;
    }

    public int rambles(int m, int seed, int n) {
        return answer(() -> {
            man(m);
            return ramble(seed, n, new int[1]).at(m);
        });
    }

    public int stands(int k, int seed, int n) {
        return answer(() -> {
            kill(k);
            return ramble(seed, n, new int[1]).stands(k);
        });
    }

    public int meet(int seed, int n) {
        return answer(() -> {
            forest();
            int[] met = {-2};
            ramble(seed, n, met);
            return met[0];
        });
    }

    // ---- acts

    private void act() {
        undos.addLast(now.copy());
        if (undos.size() > 16) {
            undos.removeFirst();
        }
    }

    public int step(int m, int p) {
        return answer(() -> {
            man(m);
            place(p);
            want(now.goes(m, p), 5);
            act();
            World before = now.copy();
            now.histories.get(m).add(p);
            now.steps++;
            return killBits(k -> now.stands(k) != before.stands(k));
        });
    }

    public int take(int k, int m) {
        return answer(() -> {
            kill(k);
            man(m);
            want(now.kills.get(k)[1] != m, 5);
            act();
            now.kills.get(k)[1] = m;
            return now.stands(k);
        });
    }

    public boolean light(int p, boolean is) {
        return answer(() -> {
            place(p);
            want(now.lit.get(p) != is, 5);
            act();
            now.lit.set(p, is);
            return 1;
        }, 0) == 1;
    }

    public boolean undo() {
        return answer(() -> {
            want(!undos.isEmpty(), 6);
            now = undos.removeLast();
            return 1;
        }, 0) == 1;
    }

    public int image() {
        return answer(() -> {
            forest();
            want(images.size() < 3, 3);
            images.add(now.copy());
            return images.size() - 1;
        });
    }

    public boolean back(int image) {
        return answer(() -> {
            between(image, 0, images.size() - 1, 1);
            now = images.get(image).copy();
            undos.clear();
            return 1;
        }, 0) == 1;
    }

    // ---- what is told

    public int led(int i) throws NoSuchElementException {
        List<Integer> nowhere = new ArrayList<>();
        for (int k = 0; k < now.kills.size(); k++) {
            if (now.stands(k) == -2) {
                nowhere.add(k);
            }
        }
        if (i < 0 || i >= nowhere.size()) {
            throw new NoSuchElementException();
        }
        return nowhere.get(i);
    }

    public int size(int what) {
        int[] sizes = {Math.max(0, now.dies), now.holds.size(), now.pathCount, now.kinds.size(), now.kills.size(),
            now.strays.size(), now.walks, now.takings, now.steps, undos.size(), images.size(), tape.length()};
        return what < 0 || what >= sizes.length ? -1 : sizes[what];
    }

    public int trouble() {
        return trouble;
    }
}
