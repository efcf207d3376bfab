/** Promises 47 to 52, 54 and 55: steps, takings, lamps, undoing, images, sizes, trouble. */
public final class ActsTest {
    // A row a b c, d by itself; kills none, one and two behind sid, one of pat's.
    private static final String ROW = "forest dies 40;place a dark holds 1;place b dark holds 1;place c dark holds 1;"
            + "place d dark holds 1;path a b;path b c;man sid sport at a;man pat poacher at b;"
            + "kill ka by sid far 0 worth 1;kill kb by sid far 1 worth 2;kill kc by sid far 2 worth 3;"
            + "kill kd by pat far 1 worth 4";

    public static void main(String[] args) {
        Check c = new Check("ActsTest");
        steps(c);
        stepsOutOfTheTrail(c);
        takings(c);
        lamps(c);
        undoing(c);
        undoingSixteen(c);
        images(c);
        sizes(c);
        troubles(c);
        withoutForest(c);
        c.end();
    }

    private static void steps(Check c) {
        KillFollows x = c.told(ROW);
        c.fine("step(0, 1)", x, x.step(0, 1), 1);
        c.due("man(0, 1)", x.man(0, 1), 1);
        c.due("trail(0, 1)", x.trail(0, 1), 0);
        c.due("step(0, 2)", x.step(0, 2), 3);
        c.due("step(0, 2): he stays", x.step(0, 2), 2 + 4);
        c.due("trail(0, 1)", x.trail(0, 1), 2);
        c.due("trail(0, 2)", x.trail(0, 2), 1);
        c.due("step(0, 2)", x.step(0, 2), 4);
        c.fine("step(0, 2): all are there", x, x.step(0, 2), 0);
        c.due("size(8)", x.size(8), 5);
        c.due("size(9)", x.size(9), 5);
        c.refused("step(0, 0): no neighbour", x, x.step(0, 0), 5);
        c.refused("step(0, 3): no neighbour", x, x.step(0, 3), 5);
        c.refused("step(2, 0)", x, x.step(2, 0), 1);
        c.refused("step(-1, 0)", x, x.step(-1, 0), 1);
        c.refused("step(0, 4)", x, x.step(0, 4), 1);
        c.refused("step(0, -1)", x, x.step(0, -1), 1);
        c.due("size(8) behind refusals", x.size(8), 5);
        c.due("size(9) behind refusals", x.size(9), 5);
        c.due("size(6) is what was told", x.size(6), 0);
    }

    private static void stepsOutOfTheTrail(Check c) {
        KillFollows x = c.told("forest dies 0;place a dark holds 1;place b lit holds 1;place c lit holds 1;"
                + "path a b;path b c;man m prince at a;kill k by m far 0 worth 0");
        int p = 1;
        for (int i = 1; i <= 7; i++) {
            c.due("step " + i, x.step(0, p), 0);
            p = 3 - p;
        }
        c.due("kill(0, 4): seven behind", x.kill(0, 4), 0);
        c.due("step 8: nowhere is elsewhere", x.step(0, p), 1);
        c.due("kill(0, 4)", x.kill(0, 4), -2);
        c.due("undo()", x.undo(), true);
        c.due("kill(0, 4): the trail's end is back", x.kill(0, 4), 0);
        c.due("trail(0, 7)", x.trail(0, 7), 0);
    }

    private static void takings(Check c) {
        KillFollows x = c.told(ROW);
        x.step(1, 2);
        x.step(1, 2);
        // pat's trail is c c b b ..: one far is two behind, two far four.
        c.fine("take(1, 1)", x, x.take(1, 1), 1);
        c.fine("take(0, 1)", x, x.take(0, 1), 2);
        c.due("kill(0, 1)", x.kill(0, 1), 1);
        c.due("kill(0, 0): SHOT by stays", x.kill(0, 0), 0);
        c.due("man(1, 2)", x.man(1, 2), 1 + 2 + 8);
        c.due("man(1, 3)", x.man(1, 3), 7);
        c.due("man(0, 4)", x.man(0, 4), 7);
        c.due("size(7) is what was told", x.size(7), 0);
        c.due("size(8): no STEPS", x.size(8), 2);
        c.due("size(9)", x.size(9), 4);
        c.refused("take(0, 1): it follows him", x, x.take(0, 1), 5);
        c.refused("take(4, 0)", x, x.take(4, 0), 1);
        c.refused("take(-1, 0)", x, x.take(-1, 0), 1);
        c.refused("take(0, 2)", x, x.take(0, 2), 1);
        c.refused("take(0, -1)", x, x.take(0, -1), 1);
        x.light(0, true);
        c.fine("take(0, 0): nowhere", x, x.take(0, 0), -2);
    }

    private static void lamps(Check c) {
        KillFollows x = c.told(ROW);
        c.refused("light(0, false): it is so", x, x.light(0, false) ? 1 : 0, 0, 5);
        c.fine("light(0, true)", x, x.light(0, true) ? 1 : 0, 1);
        c.due("place(0, 0)", x.place(0, 0), 1);
        c.due("kill(0, 4)", x.kill(0, 4), -2);
        c.refused("light(0, true): it is so", x, x.light(0, true) ? 1 : 0, 0, 5);
        c.fine("light(0, false)", x, x.light(0, false) ? 1 : 0, 1);
        c.due("place(0, 0)", x.place(0, 0), 0);
        c.due("kill(0, 4)", x.kill(0, 4), 0);
        c.due("size(9)", x.size(9), 2);
        c.refused("light(4, true)", x, x.light(4, true) ? 1 : 0, 0, 1);
        c.refused("light(-1, true)", x, x.light(-1, true) ? 1 : 0, 0, 1);
        c.refused("light(-1, false)", x, x.light(-1, false) ? 1 : 0, 0, 1);
    }

    private static void undoing(Check c) {
        KillFollows x = c.told(ROW);
        c.refused("undo() of nothing", x, x.undo() ? 1 : 0, 0, 6);
        x.step(0, 1);
        x.take(0, 1);
        x.light(1, true);
        x.step(0, 0);
        c.due("size(8)", x.size(8), 2);
        c.fine("undo() of a step", x, x.undo() ? 1 : 0, 1);
        c.due("trail(0, 0)", x.trail(0, 0), 1);
        c.due("trail(0, 1)", x.trail(0, 1), 0);
        c.due("size(8): one step is left", x.size(8), 1);
        c.due("size(9)", x.size(9), 3);
        c.due("undo() of a lamp", x.undo(), true);
        c.due("place(1, 0)", x.place(1, 0), 0);
        c.due("undo() of a taking", x.undo(), true);
        c.due("kill(0, 1)", x.kill(0, 1), 0);
        c.due("undo() of the first step", x.undo(), true);
        c.due("trail(0, 0)", x.trail(0, 0), 0);
        c.due("size(8)", x.size(8), 0);
        c.refused("undo() of nothing more", x, x.undo() ? 1 : 0, 0, 6);
        x.step(0, 2);
        c.refused("undo() of what was refused", x, x.undo() ? 1 : 0, 0, 6);
    }

    private static void undoingSixteen(Check c) {
        KillFollows x = c.told(ROW);
        for (int i = 0; i < 20; i++) {
            x.step(0, i % 2 == 0 ? 1 : 0);
            c.due("size(9)", x.size(9), Math.min(i + 1, 16));
        }
        c.due("size(8)", x.size(8), 20);
        for (int i = 0; i < 16; i++) {
            c.due("undo() " + i, x.undo(), true);
            c.due("man(0, 1)", x.man(0, 1), i % 2 == 0 ? 1 : 0);
        }
        c.refused("undo() of the seventeenth", x, x.undo() ? 1 : 0, 0, 6);
        c.due("size(8)", x.size(8), 4);
        for (int ago = 0; ago < 8; ago++) {
            c.due("trail(0, " + ago + ")", x.trail(0, ago), ago == 1 || ago == 3 ? 1 : 0);
        }
        x.light(2, true);
        c.due("size(9)", x.size(9), 1);
        c.due("undo()", x.undo(), true);
        c.due("place(2, 0)", x.place(2, 0), 0);
    }

    private static void images(Check c) {
        KillFollows x = c.told(ROW);
        c.refused("back(0) without one", x, x.back(0) ? 1 : 0, 0, 1);
        c.fine("image()", x, x.image(), 0);
        x.step(0, 1);
        x.take(3, 0);
        x.light(3, true);
        c.due("image()", x.image(), 1);
        c.due("size(9): an image is no act", x.size(9), 3);
        x.step(0, 2);
        c.due("image()", x.image(), 2);
        c.refused("image(): no room", x, x.image(), 3);
        c.due("size(10)", x.size(10), 3);
        c.fine("back(0)", x, x.back(0) ? 1 : 0, 1);
        c.due("man(0, 1)", x.man(0, 1), 0);
        c.due("kill(3, 1)", x.kill(3, 1), 1);
        c.due("place(3, 0)", x.place(3, 0), 0);
        c.due("size(8)", x.size(8), 0);
        c.due("size(9)", x.size(9), 0);
        c.due("size(10): all stay", x.size(10), 3);
        c.refused("undo() behind it", x, x.undo() ? 1 : 0, 0, 6);
        x.step(0, 0);
        c.due("back(1)", x.back(1), true);
        c.due("man(0, 1)", x.man(0, 1), 1);
        c.due("trail(0, 1)", x.trail(0, 1), 0);
        c.due("kill(3, 1)", x.kill(3, 1), 0);
        c.due("place(3, 0)", x.place(3, 0), 1);
        c.due("size(8)", x.size(8), 1);
        x.light(3, false);
        c.due("back(2)", x.back(2), true);
        c.due("man(0, 1)", x.man(0, 1), 2);
        c.due("back(1) is as it was", x.back(1), true);
        c.due("place(3, 0) is as it was", x.place(3, 0), 1);
        c.refused("back(3)", x, x.back(3) ? 1 : 0, 0, 1);
        c.refused("back(-1)", x, x.back(-1) ? 1 : 0, 0, 1);
        x.feed(0, 0, 0, 0, 0);
        x.back(0);
        c.due("THE TAPE is none of the images'", x.size(11), 20);
    }

    private static void sizes(Check c) {
        KillFollows x = c.told(Check.SHARED);
        int[] due = {50, 5, 4, 4, 4, 2, 4, 1, 0, 0, 0, 0};
        for (int what = 0; what < due.length; what++) {
            c.due("size(" + what + ")", x.size(what), due[what]);
        }
        c.due("size(12)", x.size(12), -1);
        c.due("size(-1)", x.size(-1), -1);
        c.due("size(MIN)", x.size(Integer.MIN_VALUE), -1);
        c.due("size(MAX)", x.size(Integer.MAX_VALUE), -1);
        x.step(0, 0);
        x.image();
        x.feed(1, 2, 3, 4, 5);
        c.due("size(8)", x.size(8), 1);
        c.due("size(9)", x.size(9), 1);
        c.due("size(10)", x.size(10), 1);
        c.due("size(11)", x.size(11), 20);
        c.refused("place(9, 9)", x, x.place(9, 9), 1);
        c.due("size(99)", x.size(99), -1);
        c.due("trouble() is none of size's", x.trouble(), 1);
        x.forest(0);
        c.due("size(8): the FOREST stays", x.size(8), 1);
        Check.tell(x, ROW);
        c.due("size(8) of another FOREST", x.size(8), 0);
    }

    private static void troubles(Check c) {
        KillFollows x = c.told(ROW);
        c.due("trouble()", x.trouble(), 0);
        x.trail(0, 9);
        c.due("trouble(): a number", x.trouble(), 2);
        c.due("trouble() again", x.trouble(), 2);
        x.fault();
        x.where();
        x.size(0);
        c.due("trouble() behind calls that can't be refused", x.trouble(), 2);
        x.parts();
        c.due("trouble(): it wasn't", x.trouble(), 0);
        x.undo();
        c.due("trouble(): there is none", x.trouble(), 6);
        x.light(0, true);
        c.due("trouble(): it wasn't", x.trouble(), 0);
        x.light(0, true);
        c.due("trouble(): not so", x.trouble(), 5);
        x.forest(0);
        c.due("trouble(): a FAULT", x.trouble(), 4);
        x.back(0);
        c.due("trouble(): none such", x.trouble(), 1);
    }

    private static void withoutForest(Check c) {
        KillFollows x = new KillFollows();
        c.refused("step(0, 0)", x, x.step(0, 0), 1);
        c.refused("take(0, 0)", x, x.take(0, 0), 1);
        c.refused("light(0, true)", x, x.light(0, true) ? 1 : 0, 0, 1);
        c.refused("light(0, false)", x, x.light(0, false) ? 1 : 0, 0, 1);
        c.refused("undo()", x, x.undo() ? 1 : 0, 0, 6);
        c.refused("image()", x, x.image(), 1);
        c.refused("back(0)", x, x.back(0) ? 1 : 0, 0, 1);
    }
}
