import java.lang.reflect.Constructor;
import java.lang.reflect.Field;
import java.lang.reflect.Method;
import java.lang.reflect.Modifier;
import java.nio.file.Files;
import java.nio.file.Path;
import java.util.List;
import java.util.Set;
import java.util.TreeSet;

/** The face is the document's and no other; the source keeps to what can be seen of LANGUAGE.md. */
public final class FaceTest {
    private static final String[] FACE = {
        "int feed(int,int,int,int,int)", "int forest(int)", "int fault()", "int where()",
        "int place(int,int)", "int man(int,int)", "int kill(int,int)", "int trail(int,int)",
        "int crowded()", "int leader()", "int near(int)", "int room()", "int apart(int,int)",
        "int next(int,int)", "int unseen(int,int)", "int safe(int)", "int cut(int,int)",
        "int middle()", "int parts()", "int follows(int,int,int)", "int lure(int,int)",
        "int lureRow(int,int)", "int lures(int,int)", "int company(int)", "int lonely()",
        "int owes(int)", "int ring(int)", "int ringAt(int,int)", "int amends()", "int robbed()",
        "int fits(int)", "int fitAt(int,int)", "int could(int)", "int surely(int)",
        "int ask(int)", "int askLeaves(int)", "int edge(int,boolean,boolean,boolean)",
        "int rests(int)", "int rest(int)", "long breathes(int,int,boolean)",
        "long silent(int,boolean)", "long mean(int,boolean)", "int rambles(int,int,int)",
        "int stands(int,int,int)", "int meet(int,int)", "int step(int,int)", "int take(int,int)",
        "boolean light(int,boolean)", "boolean undo()", "int image()", "boolean back(int)",
        "int led(int)", "int size(int)", "int trouble()"};

    private static final String[] BANNED = {
        "->", "::", "assert ", "synchronized", "finally", "Exact(", "catch", "var ", "System.out",
        "java.util.Random", "Thread", "getClass", "hashCode", "toString", "double ", "float "};

    public static void main(String[] args) throws Exception {
        Check c = new Check("FaceTest");
        methods(c);
        membersAreHidden(c);
        source(c);
        c.end();
    }

    private static void methods(Check c) {
        Set<String> found = new TreeSet<>();
        Set<String> publicNames = new TreeSet<>();
        for (Method m : KillFollows.class.getDeclaredMethods()) {
            if (Modifier.isPublic(m.getModifiers())) {
                found.add(said(m));
                publicNames.add(m.getName());
            }
        }
        Set<String> face = new TreeSet<>(List.of(FACE));
        c.due("methods: due " + face + ", found " + found, found.equals(face), true);
        for (Method m : KillFollows.class.getDeclaredMethods()) {
            boolean isPublic = Modifier.isPublic(m.getModifiers());
            c.due("private or public: " + m, isPublic || Modifier.isPrivate(m.getModifiers()), true);
            c.due("a name of its own: " + m, isPublic || !publicNames.contains(m.getName()), true);
        }
    }

    private static String said(Method m) {
        StringBuilder text = new StringBuilder(m.getReturnType() + " " + m.getName() + "(");
        for (Class<?> type : m.getParameterTypes()) {
            text.append(text.charAt(text.length() - 1) == '(' ? "" : ",").append(type);
        }
        return text.append(")").toString();
    }

    private static void membersAreHidden(Check c) throws Exception {
        Constructor<?>[] made = KillFollows.class.getDeclaredConstructors();
        c.due("constructors", made.length, 1);
        c.due("public constructor", Modifier.isPublic(made[0].getModifiers()), true);
        c.due("final class", Modifier.isFinal(KillFollows.class.getModifiers()), true);
        int fields = 0;
        for (Field f : KillFollows.class.getDeclaredFields()) {
            boolean isStatic = Modifier.isStatic(f.getModifiers());
            fields += isStatic ? 0 : 1;
            boolean isNone = f.getName().equals("NONE");
            c.due("hidden: " + f, isNone || Modifier.isPrivate(f.getModifiers()), true);
            c.due("static fields are final: " + f, !isStatic || Modifier.isFinal(f.getModifiers()), true);
        }
        c.due("some twenty fields at most", fields <= 20, true);
        c.due("some twelve classes at most", KillFollows.class.getDeclaredClasses().length <= 12, true);
        c.due("NONE", KillFollows.class.getField("NONE").getInt(null), -1);
    }

    private static void source(Check c) throws Exception {
        List<String> lines = Files.readAllLines(Path.of("src/main/java/KillFollows.java"));
        int begun = 0;
        for (int i = 0; i < lines.size(); i++) {
            String line = lines.get(i);
            for (String banned : BANNED) {
                c.due("line " + (i + 1) + " has " + banned, line.contains(banned), false);
            }
            if (line.matches(" {4,8}[a-z].*\\) (throws \\w+ )?\\{")) {
                begun = i;
            }
            if (line.matches(" {4,8}\\}")) {
                c.due("short method up to line " + (i + 1), i - begun <= 60 || line.length() == 5, true);
            }
        }
    }
}
