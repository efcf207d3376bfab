import java.lang.reflect.InvocationTargetException;
import java.lang.reflect.Method;
import java.util.ArrayList;
import java.util.Arrays;
import java.util.Comparator;
import java.util.List;
import java.util.Random;

/** Random runs of calls, the same on KillFollows and on Model; the draws are the same every time. */
public final class ModelTest {
    private static final int RUNS = 1500;
    private static final int CALLS = 440;
    private static final List<String> ACTS =
            List.of("step", "step", "step", "take", "light", "undo", "undo", "image", "back");

    private final Random random;
    private final KillFollows x = new KillFollows();
    private final Model model = new Model();
    private final List<String> log = new ArrayList<>();
    private int answers;

    private ModelTest(long seed) {
        random = new Random(seed);
    }

    public static void main(String[] args) throws Exception {
        long first = args.length > 0 ? Long.parseLong(args[0]) : 1;
        long runs = args.length > 1 ? Long.parseLong(args[1]) : RUNS;
        long answers = 0;
        int wrong = 0;
        for (long seed = first; seed < first + runs; seed++) {
            ModelTest test = new ModelTest(seed);
            if (!test.run()) {
                wrong++;
                System.out.println("ModelTest: seed " + seed + ", the latest calls:");
                int from = Math.max(0, test.log.size() - 12);
                test.log.subList(from, test.log.size()).forEach(System.out::println);
            }
            answers += test.answers;
        }
        System.out.println("ModelTest: " + answers + " answers looked at, " + wrong + " runs not as due");
        if (wrong != 0) {
            System.exit(1);
        }
    }

    private boolean run() throws Exception {
        List<Method> methods = new ArrayList<>();
        for (Method m : KillFollows.class.getDeclaredMethods()) {
            if ((m.getModifiers() & 1) != 0) {
                methods.add(m);
            }
        }
        methods.sort(Comparator.comparing(Method::getName));
        int calls = 0;
        while (calls < CALLS) {
            if (calls == 0 || random.nextInt(60) == 0) {
                String text = random.nextInt(3) == 0 ? spoiled(text()) : text();
                calls += text.length() / 20 + 3;
                if (!tell(text)) {
                    return false;
                }
            }
            Method m = random.nextInt(4) == 0 ? act() : methods.get(random.nextInt(methods.size()));
            if (m.getName().equals("forest") && random.nextInt(4) != 0) {
                continue;
            }
            Object[] args = arguments(m);
            calls += 2;
            if (!same(m, args) || !same(KillFollows.class.getMethod("trouble"))) {
                return false;
            }
            if (ACTS.contains(m.getName())) {
                calls += 5;
                if (!lookRound()) {
                    return false;
                }
            }
        }
        return true;
    }

    private Method act() throws Exception {
        String name = ACTS.get(random.nextInt(ACTS.size()));
        for (Method m : KillFollows.class.getMethods()) {
            if (m.getName().equals(name)) {
                return m;
            }
        }
        throw new IllegalStateException(name);
    }

    private boolean lookRound() throws Exception {
        Method size = KillFollows.class.getMethod("size", int.class);
        Method trail = KillFollows.class.getMethod("trail", int.class, int.class);
        Method kill = KillFollows.class.getMethod("kill", int.class, int.class);
        return same(size, 8) && same(size, 9) && same(trail, random.nextInt(4), random.nextInt(8))
                && same(kill, random.nextInt(6), 4) && same(KillFollows.class.getMethod("crowded"));
    }

    private Object[] arguments(Method m) {
        Object[] args = new Object[m.getParameterCount()];
        for (int i = 0; i < args.length; i++) {
            args[i] = m.getParameterTypes()[i] == boolean.class ? (Object) random.nextBoolean() : number(m, i);
        }
        return args;
    }

    private int number(Method m, int i) {
        if (random.nextInt(25) == 0) {
            int[] wild = {-1, -2, Integer.MIN_VALUE, Integer.MAX_VALUE, 7, 8, 100, 61, 65537, random.nextInt()};
            return wild[random.nextInt(wild.length)];
        }
        switch (m.getName()) {
            case "follows":
                return i == 0 ? random.nextInt(6) : i == 1 ? row() : random.nextInt(7);
            case "rambles":
            case "stands":
                return i == 0 ? random.nextInt(4) : i == 1 ? random.nextInt(65537) : random.nextInt(61);
            case "meet":
                return i == 0 ? random.nextInt(65537) : random.nextInt(61);
            case "edge":
            case "rests":
            case "rest":
                return random.nextInt(3) == 0 ? 0 : random.nextInt(21);
            case "forest":
                return random.nextInt(25);
            case "feed":
                return random.nextInt();
            case "size":
                return random.nextInt(13);
            case "silent":
            case "mean":
                return random.nextInt(3);
            case "fitAt":
                return i == 0 ? random.nextInt(3) : random.nextInt(9);
            default:
                return random.nextInt(random.nextInt(3) == 0 ? 7 : 4);
        }
    }

    private int row() {
        int[] tops = {1, 10, 100, 1000, 10000, 1000000};
        int row = 0;
        int digits = random.nextInt(tops.length);
        for (int i = 0; i < digits; i++) {
            row = 10 * row + (random.nextInt(3) == 0 ? 0 : random.nextInt(random.nextInt(9) == 0 ? 9 : 5));
        }
        return row;
    }

    private boolean same(Method m, Object... args) throws Exception {
        Object got = call(m, x, args);
        Object want = call(Model.class.getMethod(m.getName(), m.getParameterTypes()), model, args);
        String said = m.getName() + Arrays.toString(args) + " answered " + got;
        answers++;
        if (got.equals(want)) {
            log.add(said);
            return true;
        }
        log.add(said + ", due is " + want);
        return false;
    }

    private static Object call(Method m, Object on, Object[] args) throws Exception {
        try {
            return m.invoke(on, args);
        } catch (InvocationTargetException e) {
            return e.getCause().getClass().getName();
        }
    }

    private boolean tell(String text) throws Exception {
        log.add("told: " + text);
        if (x.size(11) > 0) {
            // What is left on THE TAPE goes first.
            x.forest(0);
            model.forest(0);
        }
        StringBuilder whole = new StringBuilder(text);
        while (whole.length() % 20 != 0) {
            whole.append(' ');
        }
        for (int i = 0; i < whole.length(); i += 20) {
            int[] n = new int[5];
            for (int j = 0; j < 20; j++) {
                n[j / 4] = n[j / 4] << 8 | whole.charAt(i + j) & 255;
            }
            if (x.feed(n[0], n[1], n[2], n[3], n[4]) != model.feed(n[0], n[1], n[2], n[3], n[4])) {
                log.add("feed");
                return false;
            }
        }
        Method forest = KillFollows.class.getMethod("forest", int.class);
        int n = Math.min(text.length(), x.size(11));
        return same(forest, n) && same(KillFollows.class.getMethod("fault"))
                && same(KillFollows.class.getMethod("where")) && same(KillFollows.class.getMethod("trouble"));
    }

    // ---- random texts

    private int some(int low, int high) {
        return low + random.nextInt(high - low + 1);
    }

    /** A forest without faults, its lines of walks, takings and strays mixed. */
    private String text() {
        List<String> lines = new ArrayList<>();
        int places = random.nextInt(8) == 0 ? some(1, 2) : some(3, 7);
        lines.add("forest dies " + (random.nextInt(4) == 0 ? 50 * some(0, 2) : some(0, 100)));
        for (int p = 0; p < places; p++) {
            lines.add("place p" + letter(p) + (random.nextInt(3) == 0 ? " lit" : " dark") + " holds " + some(0, random.nextBoolean() ? 2 : 9));
        }
        boolean[][] path = new boolean[7][7];
        int paths = Math.min(some(0, 10), places * (places - 1) / 2);
        for (int i = 0; i < paths;) {
            int p = random.nextInt(places);
            int q = random.nextInt(places);
            if (p != q && !path[p][q]) {
                path[p][q] = true;
                path[q][p] = true;
                lines.add("path p" + letter(p) + " p" + letter(q));
                i++;
            }
        }
        int men = random.nextInt(10) == 0 ? 0 : some(1, 4);
        int[] at = new int[men];
        String[] kinds = {"sport", "sport", "keeper", "poacher", "prince"};
        for (int m = 0; m < men; m++) {
            at[m] = random.nextInt(places);
            lines.add("man m" + letter(m) + " " + kinds[random.nextInt(5)] + " at p" + letter(at[m]));
        }
        told(lines, places, men, at, path);
        return String.join(random.nextInt(5) == 0 ? " ; " : ";", lines);
    }

    private void told(List<String> lines, int places, int men, int[] at, boolean[][] path) {
        List<Integer> follows = new ArrayList<>();
        int walks = random.nextInt(13);
        int takings = random.nextInt(7);
        int strays = 0;
        int mostKills = random.nextInt(7);
        for (int i = 0; i < 60; i++) {
            int m = men == 0 ? 0 : random.nextInt(men);
            int p = random.nextInt(places);
            int sort = random.nextInt(5);
            if (sort == 0 && men > 0 && follows.size() < mostKills) {
                lines.add("kill k" + letter(follows.size()) + " by m" + letter(m) + " far " + some(0, 3) + " worth " + some(0, 20));
                follows.add(m);
            } else if (sort == 1 && strays < 3 && random.nextInt(4) == 0) {
                lines.add("stray s" + letter(strays) + " at p" + letter(p));
                strays++;
            } else if (sort == 2 && !follows.isEmpty() && takings > 0) {
                int k = random.nextInt(follows.size());
                if (follows.get(k) != m) {
                    lines.add("taken k" + letter(k) + " m" + letter(m));
                    follows.set(k, m);
                    takings--;
                }
            } else if (sort >= 3 && men > 0 && walks > 0 && path[at[m]][p]) {
                lines.add("walk m" + letter(m) + " p" + letter(p));
                at[m] = p;
                walks--;
            }
        }
    }

    private static char letter(int i) {
        return (char) ('a' + i);
    }

    /** A text with one or two bytes, tokens or lines put in, taken out or changed. */
    private String spoiled(String text) {
        String now = text;
        for (int i = some(1, 2); i > 0; i--) {
            now = spoiledOnce(now);
        }
        return now;
    }

    private String spoiledOnce(String text) {
        String[] pieces = {"forest", "forest dies 3", "place pz lit holds 4", "path pa pb", "path pb pa", "pa", "mb",
            "kc", "man", "walk ma pb", "walk mb pa", "taken ka ma", "stray sz at pa", "man mz prince at pa", ";", " ",
            "0", "10", "21", "101", "1000", "abcdefghi", "!", "A", "\u00e9", "place", "kill kz by ma far 4 worth 20",
            "kill kz by ma far 3 worth 21", "lit", "at"};
        String piece = pieces[random.nextInt(pieces.length)];
        if (text.isEmpty()) {
            return piece;
        }
        int at = random.nextInt(text.length());
        switch (random.nextInt(6)) {
            case 0:
                return text.substring(0, at) + text.substring(at + 1);
            case 1:
                return text.substring(0, at) + piece + text.substring(at + 1);
            case 2:
                return text.substring(0, at);
            case 3: {
                List<String> lines = new ArrayList<>(Arrays.asList(text.split(";", -1)));
                lines.add(random.nextInt(lines.size() + 1), piece);
                return String.join(";", lines);
            }
            case 4: {
                List<String> lines = new ArrayList<>(Arrays.asList(text.split(";", -1)));
                lines.add(random.nextInt(lines.size() + 1), lines.get(random.nextInt(lines.size())));
                return String.join(";", lines);
            }
            default: {
                List<String> tokens = new ArrayList<>(Arrays.asList(text.split(" ", -1)));
                tokens.set(random.nextInt(tokens.size()), piece);
                return String.join(" ", tokens);
            }
        }
    }
}
