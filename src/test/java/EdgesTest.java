import java.lang.reflect.InvocationTargetException;
import java.lang.reflect.Method;
import java.util.Arrays;

/** Each sentence of the document that names a boundary has a case of its own, told with its words. */
public final class EdgesTest {
    // Numbers next to which a call's answer may turn.
    private static final int[] TURNS = {Integer.MIN_VALUE, -2, -1, 0, 1, 2, 3, 4, 5, 6, 7, 8, 11, 12, 20, 21, 60, 61,
        65536, 65537, 999999, 1000000, Integer.MAX_VALUE};
    private static final int CALLS_OF_AN_OBJECT = 400;

    private static KillFollows x;
    private static Model model;
    private static int calls;

    public static void main(String[] args) throws Exception {
        Edges e = new Edges();
        EdgesOfText.run(e);
        EdgesOfNow.run(e);
        EdgesOfWays.run(e);
        EdgesOfLuring.run(e);
        EdgesOfCompany.run(e);
        EdgesOfStrays.run(e);
        EdgesOfChances.run(e);
        EdgesOfActs.run(e);
        allTurns(e);
        e.end();
    }

    /** Every call with all of the numbers above, without a FOREST, in a bare one and in a full one, beside the model. */
    private static void allTurns(Edges e) throws Exception {
        e.beside("LANGUAGE.md, 7, for any arguments in any state: ");
        for (String text : new String[] {Edges.NO_FOREST, Edges.BARE, Edges.FULL}) {
            for (Method m : KillFollows.class.getDeclaredMethods()) {
                if (java.lang.reflect.Modifier.isPublic(m.getModifiers()) && !m.getName().equals("feed")) {
                    renew(text);
                    turn(e, text, m, new Object[m.getParameterCount()], 0);
                }
            }
        }
    }

    private static void renew(String text) {
        x = new KillFollows();
        model = new Model();
        calls = 0;
        if (text != null) {
            StringBuilder whole = new StringBuilder(text);
            while (whole.length() % 20 != 0) {
                whole.append(' ');
            }
            for (int i = 0; i < whole.length(); i += 20) {
                int[] n = new int[5];
                for (int j = 0; j < 20; j++) {
                    n[j / 4] = n[j / 4] << 8 | whole.charAt(i + j);
                }
                x.feed(n[0], n[1], n[2], n[3], n[4]);
                model.feed(n[0], n[1], n[2], n[3], n[4]);
            }
            x.forest(text.length());
            model.forest(text.length());
        }
    }

    private static void turn(Edges e, String text, Method m, Object[] args, int i) throws Exception {
        if (i == args.length) {
            same(e, text, m, args);
            return;
        }
        if (m.getParameterTypes()[i] == boolean.class) {
            for (boolean is : new boolean[] {false, true}) {
                args[i] = is;
                turn(e, text, m, args, i + 1);
            }
            return;
        }
        for (int number : TURNS) {
            args[i] = number;
            turn(e, text, m, args, i + 1);
        }
    }

    private static void same(Edges e, String text, Method m, Object[] args) throws Exception {
        calls += 2;
        if (calls > CALLS_OF_AN_OBJECT) {
            renew(text);
        }
        Object got = call(m, x, args) + " by " + x.trouble();
        Object want = call(Model.class.getMethod(m.getName(), m.getParameterTypes()), model, args) + " by " + model.trouble();
        if (got.equals(want)) {
            e.due("", true, true);
        } else {
            e.due(m.getName() + Arrays.toString(args) + " answered " + got + ", due is " + want, false, true);
        }
    }

    private static String call(Method m, Object on, Object[] args) throws Exception {
        try {
            return m.invoke(on, args).toString();
        } catch (InvocationTargetException e) {
            return e.getCause().getClass().getName();
        }
    }
}
