import java.lang.reflect.Constructor;
import java.lang.reflect.Field;
import java.lang.reflect.Method;
import java.lang.reflect.Modifier;
import java.util.List;
import java.util.Set;
import java.util.TreeSet;

/** The face is the document's and no other. */
public final class FaceTest {
    private static final String[] FACE = {
        "int feed(int,int,int,int,int)", "int forest(int)", "int fault()", "int where()",
        "int place(int,int)", "int man(int,int)", "int kill(int,int)", "int trail(int,int)",
        "int crowded()", "int leader()", "int near(int)", "int room()", "int apart(int,int)",
        "int next(int,int)", "int unseen(int,int)", "int safe(int)", "int cut(int,int)",
        "int middle()", "int parts()", "int follows(int,int,int)", "int lure(int,int)",
        "int lureRow(int,int)", "int lures(int,int)", "int company(int)", "int lonely()",
        "int owes(int)", "int ring(int)", "int ringAt(int,int)", "int amends()", "int robbed()",
        "int fits(int)", "int fitAt(int,int)", "int could(int)", "int surely(int)",
        "int ask(int)", "int askLeaves(int)", "int edge(int,boolean,boolean,boolean)",
        "int rests(int)", "int rest(int)", "long breathes(int,int,boolean)",
        "long silent(int,boolean)", "long mean(int,boolean)", "int rambles(int,int,int)",
        "int stands(int,int,int)", "int meet(int,int)", "int step(int,int)", "int take(int,int)",
        "boolean light(int,boolean)", "boolean undo()", "int image()", "boolean back(int)",
        "int led(int)", "int size(int)", "int trouble()"};

    public static void main(String[] args) throws Exception {
        Check c = new Check("FaceTest");
        methods(c);
        membersAreHidden(c);
        c.end();
    }

    private static void methods(Check c) {
        Set<String> found = new TreeSet<>();
        Set<String> publicNames = new TreeSet<>();
        for (Method m : KillFollows.class.getDeclaredMethods()) {
            if (Modifier.isPublic(m.getModifiers())) {
                found.add(said(m));
                publicNames.add(m.getName());
            }
        }
        Set<String> face = new TreeSet<>(List.of(FACE));
        c.due("methods: due " + face + ", found " + found, found.equals(face), true);
        for (Method m : KillFollows.class.getDeclaredMethods()) {
            boolean isPublic = Modifier.isPublic(m.getModifiers());
            c.due("private or public: " + m, isPublic || Modifier.isPrivate(m.getModifiers()), true);
            c.due("a name of its own: " + m, isPublic || !publicNames.contains(m.getName()), true);
        }
    }

    private static String said(Method m) {
        StringBuilder text = new StringBuilder(m.getReturnType() + " " + m.getName() + "(");
        for (Class<?> type : m.getParameterTypes()) {
            text.append(text.charAt(text.length() - 1) == '(' ? "" : ",").append(type);
        }
        return text.append(")").toString();
    }

    private static void membersAreHidden(Check c) throws Exception {
        Constructor<?>[] made = KillFollows.class.getDeclaredConstructors();
        c.due("constructors", made.length, 1);
        c.due("public constructor", Modifier.isPublic(made[0].getModifiers()), true);
        c.due("final class", Modifier.isFinal(KillFollows.class.getModifiers()), true);
        for (Field f : KillFollows.class.getDeclaredFields()) {
            boolean isStatic = Modifier.isStatic(f.getModifiers());
            boolean isNone = f.getName().equals("NONE");
            c.due("hidden: " + f, isNone || Modifier.isPrivate(f.getModifiers()), true);
            c.due("static fields are final: " + f, !isStatic || Modifier.isFinal(f.getModifiers()), true);
        }
        c.due("NONE", KillFollows.class.getField("NONE").getInt(null), -1);
    }
}
