/** The document's promises one by one: ordinary inputs, the edges that it names, wrong inputs. */
public final class ClashBoxesPromises {
    private static final String ARGUMENT = "throws.IllegalArgumentException";
    private static final String STATE = "throws.IllegalStateException";
    private static final int[] BEYOND = {Integer.MIN_VALUE, Integer.MAX_VALUE};

    private static int wrong = 0;
    private static String promise = "";

    private interface Call {
        Object answer();
    }

    private static void due(String call, Object want, Call made) {
        String got = answerOf(made);
        if (!got.equals(String.valueOf(want))) {
            wrong++;
            System.out.println(promise + ": " + call + " answered " + got + ", due is " + want);
        }
    }

    private static String answerOf(Call made) {
        try {
            return String.valueOf(made.answer());
        } catch (RuntimeException e) {
            return "throws." + e.getClass().getSimpleName();
        }
    }

    /** A short look, so that an object stays within 512 calls; ClashBoxesEdges compares all that can be asked. */
    private static String stateOf(ClashBoxes c) {
        return c.parts() + " " + c.groups() + " " + c.clashes(1) + " " + c.clashes(2);
    }

    /** A call that must throw, and change nothing. */
    private static void refused(ClashBoxes c, String call, String want, Call made) {
        String before = stateOf(c);
        due(call, want, made);
        String after = stateOf(c);
        due("the state after " + call, before, () -> after);
    }

    private static void argument(ClashBoxes c, String call, Call made) {
        refused(c, call, ARGUMENT, made);
    }

    /** Parts 0 to 3: two boxes that meet, a tube that is only softly near to them, one far off. */
    private static ClashBoxes small() {
        ClashBoxes c = new ClashBoxes();
        c.box(0, 100, 100, 100, 10, 10, 10);
        c.box(1, 105, 105, 105, 10, 10, 10);
        c.tube(2, 2, 100, 50, 120, 110, 5);
        c.box(3, 900, 900, 900, 100, 100, 100);
        c.margin(2, 3);
        return c;
    }

    private static void newObject() {
        ClashBoxes c = new ClashBoxes();
        due("parts()", 0, () -> c.parts());
        due("groups()", 0, () -> c.groups());
        due("clashes(1)", 0, () -> c.clashes(1));
        due("clashes(2)", 0, () -> c.clashes(2));
        due("clash(1, 0, 0)", -1, () -> c.clash(1, 0, 0));
        due("inside(all)", -1, () -> c.inside(-2000, -2000, -2000, 2000, 2000, 2000, 0));
        for (int i = 0; i < 8; i++) {
            for (int j = 0; j < 8; j++) {
                int kind = i;
                int other = j;
                due("free(" + i + ", " + j + ", false)", false, () -> c.free(kind, other, false));
            }
        }
        due("NONE", -1, () -> ClashBoxes.NONE);
        due("NO", -10000, () -> ClashBoxes.NO);
        ClashBoxes used = small();
        due("parts() of another object", 4, () -> used.parts());
        due("parts() still", 0, () -> c.parts());
    }

    private static void box() {
        ClashBoxes c = new ClashBoxes();
        due("the whole space", 0, () -> c.box(7, 0, 0, 0, 1000, 1000, 1000));
        due("the last corner", 1, () -> c.box(0, 999, 999, 999, 1, 1, 1));
        due("a box", 2, () -> c.box(3, 10, 20, 30, 4, 5, 6));
        int[] ends = {10, 14, 20, 25, 30, 36};
        for (int i = 0; i < 6; i++) {
            int end = i;
            due("hull(2, " + i / 2 + ", " + i % 2 + ")", ends[i], () -> c.hull(2, end / 2, end % 2));
        }
        wrongBoxes(c);
        due("the next number", 3, () -> c.box(0, 0, 0, 0, 1, 1, 1));
        fullOfBoxes();
    }

    private static void wrongBoxes(ClashBoxes c) {
        int[] kinds = {-1, 8, BEYOND[0], BEYOND[1]};
        for (int kind : kinds) {
            argument(c, "box of kind " + kind, () -> c.box(kind, 0, 0, 0, 1, 1, 1));
        }
        int[][] spans = {{-1, 5}, {1000, 1}, {1001, 1}, {999, 2}, {0, 0}, {0, 1001}, {5, -1}, {1, 1000},
            {BEYOND[0], 1}, {BEYOND[1], 1}, {1, BEYOND[0]}, {1, BEYOND[1]}, {BEYOND[1], BEYOND[1]}};
        for (int[] s : spans) {
            String span = s[0] + " so long " + s[1];
            argument(c, "box, x " + span, () -> c.box(0, s[0], 0, 0, s[1], 1, 1));
            argument(c, "box, y " + span, () -> c.box(0, 0, s[0], 0, 1, s[1], 1));
            argument(c, "box, z " + span, () -> c.box(0, 0, 0, s[0], 1, 1, s[1]));
        }
    }

    private static void fullOfBoxes() {
        ClashBoxes c = new ClashBoxes();
        for (int i = 0; i < 60; i++) {
            int at = i;
            due("box " + i, i, () -> c.box(0, at * 10, 0, 0, 5, 5, 5));
        }
        due("hull(59, 0, 0)", 590, () -> c.hull(59, 0, 0));
        due("pair(59, 58)", 0, () -> c.pair(59, 58));
        due("groups() of 60 parts", 0, () -> c.groups());
        due("the 60th in all", -1, () -> c.inside(-2000, -2000, -2000, 2000, 2000, 2000, 60));
        due("shift(59) of 60 parts", 0, () -> c.shift(59, 0, 1000));
        refused(c, "a 61st box", STATE, () -> c.box(0, 0, 0, 0, 1, 1, 1));
        argument(c, "a wrong 61st box", () -> c.box(0, 0, 0, 0, 1, 1, 0));
        c.drop(59);
        refused(c, "a 61st box behind a drop", STATE, () -> c.box(0, 0, 0, 0, 1, 1, 1));
    }

    private static void tube() {
        ClashBoxes c = new ClashBoxes();
        due("a tube along 0", 0, () -> c.tube(0, 0, 10, 20, 300, 400, 5));
        due("a tube along 1", 1, () -> c.tube(7, 1, 10, 20, 300, 400, 5));
        due("a tube along 2", 2, () -> c.tube(1, 2, 10, 20, 300, 400, 5));
        due("the greatest", 3, () -> c.tube(1, 0, 0, 1000, 0, 1000, 200));
        due("the least", 4, () -> c.tube(1, 2, 999, 1, 1000, 0, 1));
        int[][] ends = {{10, 30, 295, 305, 395, 405}, {295, 305, 10, 30, 395, 405}, {295, 305, 395, 405, 10, 30},
            {0, 1000, -200, 200, 800, 1200}, {999, 1001, -1, 1, 999, 1000}};
        for (int i = 0; i < ends.length; i++) {
            for (int j = 0; j < 6; j++) {
                int part = i;
                int end = j;
                due("hull(" + i + ", " + j / 2 + ", " + j % 2 + ")", ends[i][j], () -> c.hull(part, end / 2, end % 2));
            }
        }
        wrongTubes(c);
        due("the next number", 5, () -> c.tube(0, 0, 0, 1, 0, 0, 1));
        fullOfTubes();
    }

    private static void wrongTubes(ClashBoxes c) {
        int[][] calls = {{-1, 0, 0, 1, 0, 0, 1}, {8, 0, 0, 1, 0, 0, 1}, {0, -1, 0, 1, 0, 0, 1}, {0, 3, 0, 1, 0, 0, 1},
            {0, 0, -1, 5, 0, 0, 1}, {0, 0, 1000, 1, 0, 0, 1}, {0, 0, 0, 0, 0, 0, 1}, {0, 0, 0, 1001, 0, 0, 1},
            {0, 0, 500, 501, 0, 0, 1}, {0, 1, 999, 2, 0, 0, 1}, {0, 2, 1, 1000, 0, 0, 1}, {0, 0, 5, -1, 0, 0, 1},
            {0, 0, 0, 1, -1, 0, 1}, {0, 0, 0, 1, 1001, 0, 1}, {0, 0, 0, 1, 0, -1, 1}, {0, 0, 0, 1, 0, 1001, 1},
            {0, 0, 0, 1, 0, 0, 0}, {0, 0, 0, 1, 0, 0, 201}, {0, 0, 0, 1, 0, 0, -1}};
        for (int[] t : calls) {
            argument(c, "tube " + java.util.Arrays.toString(t), () -> c.tube(t[0], t[1], t[2], t[3], t[4], t[5], t[6]));
        }
        for (int far : BEYOND) {
            for (int i = 0; i < 7; i++) {
                int[] t = {0, 0, 1, 1, 1, 1, 1};
                t[i] = far;
                argument(c, "tube " + java.util.Arrays.toString(t), () -> c.tube(t[0], t[1], t[2], t[3], t[4], t[5], t[6]));
            }
        }
    }

    private static void fullOfTubes() {
        ClashBoxes c = new ClashBoxes();
        for (int i = 0; i < 60; i++) {
            int at = i;
            due("tube " + i, i, () -> c.tube(0, 0, 0, 1, at * 10, 0, 1));
        }
        refused(c, "a 61st tube", STATE, () -> c.tube(0, 0, 0, 1, 0, 0, 1));
        argument(c, "a wrong 61st tube", () -> c.tube(0, 0, 0, 1, 0, 0, 0));
        c.drop(0);
        refused(c, "a 61st tube behind a drop", STATE, () -> c.tube(0, 0, 0, 1, 0, 0, 1));
    }

    private static void margin() {
        ClashBoxes c = small();
        due("margin(0, 50)", 0, () -> c.margin(0, 50));
        due("margin(0, 7)", 50, () -> c.margin(0, 7));
        due("margin(1, 1)", 0, () -> c.margin(1, 1));
        argument(c, "margin(0, 51)", () -> c.margin(0, 51));
        argument(c, "margin(0, -1)", () -> c.margin(0, -1));
        argument(c, "margin(4, 1)", () -> c.margin(4, 1));
        argument(c, "margin(60, 1)", () -> c.margin(60, 1));
        argument(c, "margin(-1, 1)", () -> c.margin(-1, 1));
        for (int far : BEYOND) {
            argument(c, "margin(0, " + far + ")", () -> c.margin(0, far));
            argument(c, "margin(" + far + ", 0)", () -> c.margin(far, 0));
        }
        due("margin(0, 0) behind the wrong ones", 7, () -> c.margin(0, 0));
        c.drop(1);
        argument(c, "margin of a dropped part", () -> c.margin(1, 0));
    }

    private static void free() {
        ClashBoxes c = small();
        c.box(0, 101, 101, 101, 2, 2, 2);
        due("pair(0, 1)", 2, () -> c.pair(0, 1));
        due("free(0, 1, true)", false, () -> c.free(0, 1, true));
        due("pair(0, 1) free", 0, () -> c.pair(0, 1));
        due("pair(1, 0) free", 0, () -> c.pair(1, 0));
        due("free(1, 0, true)", true, () -> c.free(1, 0, true));
        due("free(1, 0, false)", true, () -> c.free(1, 0, false));
        due("free(0, 1, false)", false, () -> c.free(0, 1, false));
        due("pair(0, 1) not free", 2, () -> c.pair(0, 1));
        due("pair(0, 4)", 2, () -> c.pair(0, 4));
        due("free(0, 0, true)", false, () -> c.free(0, 0, true));
        due("pair(0, 4) of one free kind", 0, () -> c.pair(0, 4));
        due("pair(0, 1) of two kinds", 2, () -> c.pair(0, 1));
        due("free(0, 0, false)", true, () -> c.free(0, 0, false));
        due("pair(1, 2)", 1, () -> c.pair(1, 2));
        due("free(2, 1, true)", false, () -> c.free(2, 1, true));
        due("pair(1, 2) free", 0, () -> c.pair(1, 2));
        due("free(7, 7, true)", false, () -> c.free(7, 7, true));
        int[] wrongKinds = {-1, 8, BEYOND[0], BEYOND[1]};
        for (int kind : wrongKinds) {
            argument(c, "free(" + kind + ", 0, true)", () -> c.free(kind, 0, true));
            argument(c, "free(0, " + kind + ", true)", () -> c.free(0, kind, true));
        }
    }

    private static void move() {
        ClashBoxes c = new ClashBoxes();
        c.box(0, 10, 20, 30, 100, 100, 100);
        c.tube(0, 1, 10, 100, 20, 30, 200);
        due("box to 0", true, () -> c.move(0, 0, -10));
        due("its hull", "0 100", () -> c.hull(0, 0, 0) + " " + c.hull(0, 0, 1));
        due("its hull across", "20 120", () -> c.hull(0, 1, 0) + " " + c.hull(0, 1, 1));
        refusedMove(c, 0, 0, -1);
        due("box to 1000", true, () -> c.move(0, 0, 900));
        refusedMove(c, 0, 0, 1);
        due("by 0", true, () -> c.move(0, 0, 0));
        due("box along 2", true, () -> c.move(0, 2, 870));
        due("hull(0, 2, 1)", 1000, () -> c.hull(0, 2, 1));
        refusedMove(c, 0, 2, 1);
        due("tube along its axis", true, () -> c.move(1, 1, 890));
        refusedMove(c, 1, 1, 1);
        due("tube back", true, () -> c.move(1, 1, -900));
        refusedMove(c, 1, 1, -1);
        due("tube across, centre to 0", true, () -> c.move(1, 0, -20));
        due("its hull", "-200 200", () -> c.hull(1, 0, 0) + " " + c.hull(1, 0, 1));
        refusedMove(c, 1, 0, -1);
        due("tube across, centre to 1000", true, () -> c.move(1, 0, 1000));
        due("its hull", "800 1200", () -> c.hull(1, 0, 0) + " " + c.hull(1, 0, 1));
        due("its hull along 2", "-170 230", () -> c.hull(1, 2, 0) + " " + c.hull(1, 2, 1));
        refusedMove(c, 1, 0, 1);
        due("tube across, by -1000", true, () -> c.move(1, 0, -1000));
        wrongMoves(c);
    }

    private static void refusedMove(ClashBoxes c, int part, int axis, int by) {
        String call = "move(" + part + ", " + axis + ", " + by + ")";
        String before = hullOf(c, part);
        due(call, false, () -> c.move(part, axis, by));
        due("the hull after " + call, before, () -> hullOf(c, part));
    }

    private static String hullOf(ClashBoxes c, int part) {
        StringBuilder ends = new StringBuilder();
        for (int i = 0; i < 6; i++) {
            ends.append(c.hull(part, i / 2, i % 2)).append(' ');
        }
        return ends.toString();
    }

    private static void wrongMoves(ClashBoxes c) {
        int[][] moves = {{-1, 0, 0}, {2, 0, 0}, {60, 0, 0}, {0, -1, 0}, {0, 3, 0}, {0, 0, 1001}, {0, 0, -1001},
            {BEYOND[0], 0, 0}, {BEYOND[1], 0, 0}, {0, BEYOND[0], 0}, {0, BEYOND[1], 0}, {0, 0, BEYOND[0]}, {0, 0, BEYOND[1]}};
        for (int[] m : moves) {
            argument(c, "move" + java.util.Arrays.toString(m), () -> c.move(m[0], m[1], m[2]));
        }
        c.drop(1);
        argument(c, "move of a dropped part", () -> c.move(1, 0, 0));
    }

    private static void drop() {
        ClashBoxes c = small();
        due("drop(1)", 3, () -> c.drop(1));
        due("parts()", 3, () -> c.parts());
        argument(c, "drop(1) again", () -> c.drop(1));
        due("clashes(2)", 0, () -> c.clashes(2));
        due("the next number", 4, () -> c.box(0, 0, 0, 0, 1, 1, 1));
        due("drop(4)", 3, () -> c.drop(4));
        due("the next number", 5, () -> c.box(0, 0, 0, 0, 1, 1, 1));
        argument(c, "drop(6)", () -> c.drop(6));
        argument(c, "drop(60)", () -> c.drop(60));
        argument(c, "drop(-1)", () -> c.drop(-1));
        argument(c, "drop(least)", () -> c.drop(BEYOND[0]));
        argument(c, "drop(greatest)", () -> c.drop(BEYOND[1]));
        due("drop(0)", 3, () -> c.drop(0));
        due("drop(2)", 2, () -> c.drop(2));
        due("drop(3)", 1, () -> c.drop(3));
        due("drop(5)", 0, () -> c.drop(5));
        due("parts()", 0, () -> c.parts());
        due("a part behind them", 6, () -> c.box(0, 0, 0, 0, 1, 1, 1));
    }

    private static void pairOf(String what, int want, ClashBoxes c) {
        due(what, want, () -> c.pair(0, 1));
        due(what + ", the other way", want, () -> c.pair(1, 0));
    }

    private static ClashBoxes withMargins(ClashBoxes c, int first, int second) {
        c.margin(0, first);
        c.margin(1, second);
        return c;
    }

    private static ClashBoxes boxes(int x, int y, int z) {
        ClashBoxes c = new ClashBoxes();
        c.box(0, 100, 100, 100, 10, 10, 10);
        c.box(1, x, y, z, 10, 10, 10);
        return c;
    }

    private static void pairOfBoxes() {
        pairOf("one in all axes", 2, boxes(100, 100, 100));
        pairOf("an overlap by 1", 2, boxes(109, 109, 91));
        pairOf("a touch along 0", 0, boxes(110, 100, 100));
        pairOf("a touch along 1", 0, boxes(100, 90, 100));
        pairOf("a touch along 2", 0, boxes(100, 100, 110));
        pairOf("margin of the first", 1, withMargins(boxes(110, 100, 100), 1, 0));
        pairOf("margin of the second", 1, withMargins(boxes(110, 100, 100), 0, 1));
        pairOf("a gap as great as the margin", 0, withMargins(boxes(115, 100, 100), 5, 0));
        pairOf("margins are not added", 0, withMargins(boxes(115, 100, 100), 5, 5));
        pairOf("a gap less than the margin", 1, withMargins(boxes(115, 114, 86), 6, 0));
        pairOf("a grown box keeps its corners", 1, withMargins(boxes(119, 119, 119), 0, 10));
        pairOf("hard in spite of margins", 2, withMargins(boxes(109, 100, 100), 50, 50));
    }

    /** A box of 100 .. 110 in all axes and a tube along an axis. */
    private static ClashBoxes boxAndTube(int axis, int from, int u, int v, int radius) {
        ClashBoxes c = new ClashBoxes();
        c.box(0, 100, 100, 100, 10, 10, 10);
        c.tube(1, axis, from, 50, u, v, radius);
        return c;
    }

    private static void pairOfBoxAndTube() {
        for (int axis = 0; axis < 3; axis++) {
            String along = " along " + axis;
            pairOf("centre in the box" + along, 2, boxAndTube(axis, 80, 105, 105, 1));
            pairOf("centre on its edge" + along, 2, boxAndTube(axis, 80, 110, 110, 1));
            pairOf("a touch at the end" + along, 0, boxAndTube(axis, 110, 105, 105, 20));
            pairOf("an overlap by 1" + along, 2, boxAndTube(axis, 109, 105, 105, 20));
            pairOf("a touch at the start" + along, 0, boxAndTube(axis, 50, 105, 105, 20));
            pairOf("a touch across" + along, 0, boxAndTube(axis, 100, 115, 105, 5));
            pairOf("nearer by 1" + along, 2, boxAndTube(axis, 100, 114, 105, 5));
            pairOf("a touch of the corner, 3 4 5" + along, 0, boxAndTube(axis, 100, 113, 114, 5));
            pairOf("hulls meet, round does not" + along, 0, boxAndTube(axis, 100, 96, 96, 5));
            pairOf("past the corner" + along, 2, boxAndTube(axis, 100, 113, 97, 5));
            pairOf("corner and the tube's margin" + along, 1, withMargins(boxAndTube(axis, 100, 113, 114, 5), 0, 1));
            pairOf("corner and the box's margin" + along, 1, withMargins(boxAndTube(axis, 100, 113, 114, 5), 1, 0));
            // Grown by 6 the box has its corner at 116, 4 and 4 from the centre: 32 is less than 36.
            pairOf("a grown box is no round one" + along, 1, withMargins(boxAndTube(axis, 100, 120, 120, 6), 6, 0));
            pairOf("a grown box keeps the tube's radius" + along, 0, withMargins(boxAndTube(axis, 100, 122, 105, 6), 6, 0));
            // Grown by 6 the tube's radius is 12, and its centre 10 and 10 from the corner: 200 is more than 144.
            pairOf("a grown tube is round" + along, 0, withMargins(boxAndTube(axis, 100, 120, 120, 6), 0, 6));
            pairOf("a grown tube's ends" + along, 1, withMargins(boxAndTube(axis, 113, 105, 105, 6), 0, 4));
            pairOf("a grown tube's ends touch" + along, 0, withMargins(boxAndTube(axis, 114, 105, 105, 6), 0, 4));
        }
    }

    private static ClashBoxes tubes(int axis, int from, int u, int v, int radius) {
        ClashBoxes c = new ClashBoxes();
        c.tube(0, axis, 100, 50, 500, 500, 10);
        c.tube(1, axis, from, 50, u, v, radius);
        return c;
    }

    private static void pairOfTubes() {
        for (int axis = 0; axis < 3; axis++) {
            String along = " along " + axis;
            pairOf("one centre" + along, 2, tubes(axis, 100, 500, 500, 1));
            pairOf("a touch at the ends" + along, 0, tubes(axis, 150, 500, 500, 1));
            pairOf("an overlap by 1" + along, 2, tubes(axis, 149, 500, 500, 1));
            pairOf("an overlap by 1 below" + along, 2, tubes(axis, 51, 500, 500, 1));
            pairOf("a touch, 9 12 15" + along, 0, tubes(axis, 100, 509, 488, 5));
            pairOf("nearer by 1" + along, 2, tubes(axis, 100, 508, 488, 5));
            pairOf("a touch and the margin" + along, 1, withMargins(tubes(axis, 100, 509, 488, 5), 1, 0));
            pairOf("margins are not added" + along, 0, withMargins(tubes(axis, 100, 520, 500, 5), 5, 5));
            pairOf("margin by 1 more" + along, 1, withMargins(tubes(axis, 100, 520, 500, 5), 5, 6));
            pairOf("hulls meet, rounds do not" + along, 0, tubes(axis, 100, 511, 511, 5));
            pairOf("the ends' margin" + along, 1, withMargins(tubes(axis, 160, 500, 500, 5), 11, 0));
            pairOf("the ends' margin touches" + along, 0, withMargins(tubes(axis, 160, 500, 500, 5), 10, 10));
        }
    }

    private static ClashBoxes crossed(int from, int u, int v) {
        ClashBoxes c = new ClashBoxes();
        // Its hull is 100 .. 150, 490 .. 510, 490 .. 510.
        c.tube(0, 0, 100, 50, 500, 500, 10);
        c.tube(1, 2, from, 50, u, v, 10);
        return c;
    }

    private static void pairOfCrossedTubes() {
        pairOf("hulls meet", 2, crossed(509, 159, 519));
        pairOf("touch along 0", 0, crossed(500, 160, 500));
        pairOf("touch along 1", 0, crossed(500, 120, 520));
        pairOf("touch along 2", 0, crossed(510, 120, 500));
        pairOf("touch along 2 below", 0, crossed(440, 120, 500));
        pairOf("margin in the radius", 1, withMargins(crossed(500, 165, 500), 0, 6));
        pairOf("margin at the end", 1, withMargins(crossed(500, 165, 500), 6, 0));
        pairOf("margin only touches", 0, withMargins(crossed(500, 165, 500), 5, 5));
        pairOf("margin in all axes", 1, withMargins(crossed(514, 164, 524), 0, 5));
    }

    private static void wrongPairs() {
        ClashBoxes c = small();
        argument(c, "pair(0, 0)", () -> c.pair(0, 0));
        int[] others = {-1, 4, 60, BEYOND[0], BEYOND[1]};
        for (int other : others) {
            argument(c, "pair(0, " + other + ")", () -> c.pair(0, other));
            argument(c, "pair(" + other + ", 0)", () -> c.pair(other, 0));
        }
        c.drop(1);
        argument(c, "pair(0, 1) of a dropped part", () -> c.pair(0, 1));
        argument(c, "pair(1, 0) of a dropped part", () -> c.pair(1, 0));
    }

    private static void clashes() {
        ClashBoxes c = small();
        due("clashes(1)", 1, () -> c.clashes(1));
        due("clashes(2)", 1, () -> c.clashes(2));
        c.margin(2, 50);
        due("clashes(1)", 2, () -> c.clashes(1));
        c.move(2, 0, -15);
        due("clashes(1)", 0, () -> c.clashes(1));
        due("clashes(2)", 3, () -> c.clashes(2));
        c.free(0, 1, true);
        due("clashes(2)", 2, () -> c.clashes(2));
        c.drop(2);
        due("clashes(2)", 0, () -> c.clashes(2));
        int[] states = {-1, 0, 3, BEYOND[0], BEYOND[1]};
        for (int state : states) {
            argument(c, "clashes(" + state + ")", () -> c.clashes(state));
        }
        ClashBoxes full = new ClashBoxes();
        for (int i = 0; i < 60; i++) {
            full.box(0, 0, 0, 0, 10, 10, 10);
        }
        due("clashes(2) of all", 1770, () -> full.clashes(2));
        due("the last of all", "58 59", () -> full.clash(2, 1769, 0) + " " + full.clash(2, 1769, 1));
        due("group(59) of all", 0, () -> full.group(59));
        due("shift(0) of all", 10, () -> full.shift(0, 0, 1000));
        due("past the last of all", -1, () -> full.clash(2, 1770, 0));
    }

    private static void clash() {
        ClashBoxes c = new ClashBoxes();
        c.box(0, 0, 0, 0, 10, 10, 10);
        c.box(0, 20, 0, 0, 10, 10, 10);
        c.box(0, 5, 0, 0, 20, 10, 10);
        c.box(0, 0, 5, 0, 50, 10, 10);
        c.box(0, 50, 0, 0, 10, 20, 10);
        c.margin(4, 1);
        String[] hard = {"0 2", "0 3", "1 2", "1 3", "2 3", "-1 -1"};
        for (int i = 0; i < hard.length; i++) {
            int k = i;
            due("clash(2, " + k + ")", hard[k], () -> c.clash(2, k, 0) + " " + c.clash(2, k, 1));
        }
        due("clash(1, 0)", "3 4", () -> c.clash(1, 0, 0) + " " + c.clash(1, 0, 1));
        due("clash(1, 1, 0)", -1, () -> c.clash(1, 1, 0));
        due("a far k", -1, () -> c.clash(2, BEYOND[1], 1));
        c.drop(2);
        due("clash(2, 1) behind a drop", "1 3", () -> c.clash(2, 1, 0) + " " + c.clash(2, 1, 1));
        int[][] calls = {{0, 0, 0}, {3, 0, 0}, {-1, 0, 0}, {2, -1, 0}, {1, -1, 1}, {2, 0, 2}, {2, 0, -1},
            {2, 99, 2}, {BEYOND[0], 0, 0}, {BEYOND[1], 0, 0}, {2, BEYOND[0], 0}, {2, 0, BEYOND[0]}, {2, 0, BEYOND[1]}};
        for (int[] a : calls) {
            argument(c, "clash" + java.util.Arrays.toString(a), () -> c.clash(a[0], a[1], a[2]));
        }
    }

    /** Parts 0, 4, 1, 3 in a row in this order, each meeting the next; 2 and 5 elsewhere together; 6 alone. */
    private static ClashBoxes chain() {
        ClashBoxes c = new ClashBoxes();
        c.box(0, 0, 0, 0, 10, 10, 10);
        c.box(1, 16, 0, 0, 10, 10, 10);
        c.box(2, 500, 0, 0, 10, 10, 10);
        c.box(3, 24, 0, 0, 10, 10, 10);
        c.box(4, 8, 0, 0, 10, 10, 10);
        c.box(5, 505, 0, 0, 10, 10, 10);
        c.box(6, 900, 0, 0, 10, 10, 10);
        return c;
    }

    private static void groups() {
        ClashBoxes c = chain();
        due("groups()", 2, () -> c.groups());
        due("groups() once more", 2, () -> c.groups());
        c.free(1, 4, true);
        due("groups() in three", 3, () -> c.groups());
        c.free(1, 4, false);
        c.drop(4);
        due("groups() without the link", 2, () -> c.groups());
        c.drop(3);
        due("groups() of 2 and 5", 1, () -> c.groups());
        c.margin(0, 50);
        due("soft pairs make no group", 1, () -> c.groups());
        c.drop(2);
        due("none of more than one", 0, () -> c.groups());
        ClashBoxes neighbours = small();
        due("groups() of 0 and 1", 1, () -> neighbours.groups());
        due("group(1)", 0, () -> neighbours.group(1));
    }

    private static void group() {
        ClashBoxes c = chain();
        int[] names = {0, 0, 2, 0, 0, 2, 6};
        for (int i = 0; i < names.length; i++) {
            int part = i;
            due("group(" + i + ")", names[i], () -> c.group(part));
        }
        c.drop(0);
        due("group(3) without 0", 1, () -> c.group(3));
        due("group(4) without 0", 1, () -> c.group(4));
        c.drop(4);
        due("group(3) without 4", 1, () -> c.group(3));
        c.free(3, 1, true);
        due("group(3) free of 1", 3, () -> c.group(3));
        int[] others = {-1, 0, 4, 7, 60, BEYOND[0], BEYOND[1]};
        for (int part : others) {
            argument(c, "group(" + part + ")", () -> c.group(part));
        }
    }

    private static void common() {
        ClashBoxes c = small();
        due("common(0, 1)", 125L, () -> c.common(0, 1));
        due("common(1, 0)", 125L, () -> c.common(1, 0));
        due("common(0, 2)", 0L, () -> c.common(0, 2));
        due("apart along two axes", 0L, () -> c.common(0, 3));
        c.free(0, 1, true);
        due("of free kinds", 125L, () -> c.common(0, 1));
        c.tube(0, 0, 900, 100, 1000, 1000, 200);
        due("only in the space", 1000000L, () -> c.common(3, 4));
        c.tube(0, 1, 900, 100, 1000, 1000, 200);
        due("hulls beyond the space", 100L * 100 * 400, () -> c.common(4, 5));
        c.box(0, 0, 0, 0, 1000, 1000, 1000);
        c.box(0, 0, 0, 0, 1000, 1000, 1000);
        due("all of the space", 1000000000L, () -> c.common(6, 7));
        c.tube(0, 2, 100, 10, 114, 96, 5);
        due("hulls alone meet", 0, () -> c.pair(0, 8));
        due("the hulls of a box and a tube", 10L, () -> c.common(0, 8));
        argument(c, "common(0, 0)", () -> c.common(0, 0));
        int[] others = {-1, 9, 60, BEYOND[0], BEYOND[1]};
        for (int other : others) {
            argument(c, "common(0, " + other + ")", () -> c.common(0, other));
            argument(c, "common(" + other + ", 0)", () -> c.common(other, 0));
        }
        c.drop(1);
        argument(c, "common of a dropped part", () -> c.common(0, 1));
    }

    private static void inside() {
        ClashBoxes c = small();
        c.tube(0, 0, 0, 100, 0, 0, 200);
        due("all, 0th", 0, () -> c.inside(-2000, -2000, -2000, 2000, 2000, 2000, 0));
        due("all, 4th", 4, () -> c.inside(-2000, -2000, -2000, 2000, 2000, 2000, 4));
        due("all, 5th", -1, () -> c.inside(-2000, -2000, -2000, 2000, 2000, 2000, 5));
        due("all, a far one", -1, () -> c.inside(-2000, -2000, -2000, 2000, 2000, 2000, BEYOND[1]));
        due("in 1 alone", 1, () -> c.inside(110, 110, 110, 111, 111, 111, 0));
        due("in 1 alone, the next", -1, () -> c.inside(110, 110, 110, 111, 111, 111, 1));
        due("the tube's hull at its corner", 4, () -> c.inside(0, -200, 199, 1, -199, 200, 0));
        due("a touch of it", -1, () -> c.inside(-1, -200, 199, 0, -199, 200, 0));
        due("a touch of its side", -1, () -> c.inside(0, -201, 199, 1, -200, 200, 0));
        due("a touch along 2", -1, () -> c.inside(0, 0, 200, 1, 1, 201, 0));
        due("in the far box", 3, () -> c.inside(900, 900, 900, 901, 901, 901, 0));
        due("past the far box along 0", -1, () -> c.inside(899, 900, 900, 900, 901, 901, 0));
        due("past the far box along 1", -1, () -> c.inside(900, 899, 900, 901, 900, 901, 0));
        due("past the far box along 2", -1, () -> c.inside(900, 900, 899, 901, 901, 900, 0));
        due("above the far box along 1", -1, () -> c.inside(900, 1000, 900, 901, 1001, 901, 0));
        due("above the far box along 2", -1, () -> c.inside(900, 900, 1000, 901, 901, 1001, 0));
        c.box(0, 300, 400, 500, 10, 10, 10);
        due("each axis has its own numbers", 5, () -> c.inside(300, 400, 500, 310, 410, 510, 0));
        c.drop(5);
        due("the soft space does not count", -1, () -> c.inside(126, 110, 110, 127, 111, 111, 0));
        c.drop(1);
        due("all, 1st behind a drop", 2, () -> c.inside(-2000, -2000, -2000, 2000, 2000, 2000, 1));
        argument(c, "k below 0", () -> c.inside(0, 0, 0, 1, 1, 1, -1));
        argument(c, "k far below 0", () -> c.inside(0, 0, 0, 1, 1, 1, BEYOND[0]));
        int[][] spans = {{0, 0}, {1, 0}, {-2001, 0}, {0, 2001}, {2000, 2001}, {-2001, -2000}, {2000, 2000},
            {BEYOND[0], 0}, {0, BEYOND[0]}, {0, BEYOND[1]}, {BEYOND[1], 0}, {BEYOND[0], BEYOND[1]}};
        for (int[] s : spans) {
            String span = s[0] + " to " + s[1];
            argument(c, "inside, x " + span, () -> c.inside(s[0], 0, 0, s[1], 1, 1, 0));
            argument(c, "inside, y " + span, () -> c.inside(0, s[0], 0, 1, s[1], 1, 0));
            argument(c, "inside, z " + span, () -> c.inside(0, 0, s[0], 1, 1, s[1], 0));
        }
    }

    private static void shift() {
        ClashBoxes c = new ClashBoxes();
        c.box(0, 500, 500, 500, 10, 10, 10);
        due("with none", 0, () -> c.shift(0, 0, 0));
        c.box(1, 505, 500, 500, 10, 10, 10);
        due("down is shorter", -5, () -> c.shift(0, 0, 1000));
        due("just enough", -5, () -> c.shift(0, 0, 5));
        due("not enough", -10000, () -> c.shift(0, 0, 4));
        due("none at all", -10000, () -> c.shift(0, 0, 0));
        due("of two as short the upper", 10, () -> c.shift(0, 1, 1000));
        due("the other part", 5, () -> c.shift(1, 0, 1000));
        due("the other part, just enough", 5, () -> c.shift(1, 0, 5));
        due("the other part, not enough", -10000, () -> c.shift(1, 0, 4));
        c.box(2, 490, 500, 500, 6, 10, 10);
        due("past the next one down", 15, () -> c.shift(0, 0, 1000));
        due("nothing has moved", 500, () -> c.hull(0, 0, 0));
        c.free(0, 2, true);
        due("free kinds do not hinder", -5, () -> c.shift(0, 0, 1000));
        c.drop(1);
        due("a dropped part does not hinder", 0, () -> c.shift(0, 0, 1000));
        shiftAtTheEnds();
        shiftOfTubes();
        shiftBesideTouches();
        wrongShifts();
    }

    private static void shiftAtTheEnds() {
        ClashBoxes c = new ClashBoxes();
        c.box(0, 0, 0, 0, 10, 10, 10);
        c.box(1, 5, 0, 0, 900, 10, 10);
        due("past the space's lower end", 905, () -> c.shift(0, 0, 1000));
        due("too far", -10000, () -> c.shift(0, 0, 904));
        c.box(1, 900, 0, 0, 91, 10, 10);
        due("past both ends", -10000, () -> c.shift(0, 0, 1000));
        due("across", 10, () -> c.shift(0, 1, 1000));
        c.box(2, 990, 500, 0, 10, 10, 10);
        c.box(2, 985, 500, 0, 10, 10, 10);
        due("past the space's upper end", -15, () -> c.shift(3, 0, 1000));
        // With its centre at 1000 half of this tube is beyond the space: moves allow it.
        c.tube(3, 0, 0, 10, 985, 985, 20);
        c.box(3, 0, 900, 900, 10, 80, 100);
        due("a tube's centre at the end", 15, () -> c.shift(5, 1, 1000));
        c.move(6, 1, 1);
        due("a tube's centre past the end", -104, () -> c.shift(5, 1, 1000));
    }

    private static void shiftOfTubes() {
        ClashBoxes c = new ClashBoxes();
        c.tube(0, 2, 100, 50, 500, 500, 10);
        c.tube(1, 2, 100, 50, 512, 509, 5);
        due("tubes that touch", 0, () -> c.shift(0, 0, 1000));
        c.move(1, 0, -1);
        due("apart from 11, 9 to 12, 9", -1, () -> c.shift(0, 0, 1000));
        due("along the other one, to 11, 11", -2, () -> c.shift(0, 1, 1000));
        due("along their axis, the upper", 50, () -> c.shift(0, 2, 1000));
        c.box(2, 480, 480, 100, 14, 14, 10);
        due("no way down any more, past the tube", 23, () -> c.shift(0, 0, 1000));
        c.tube(3, 0, 490, 20, 500, 140, 10);
        due("crossed tubes by their hulls", 20, () -> c.shift(3, 2, 1000));
        due("a box past a tube's round", -2, () -> c.shift(2, 0, 1000));
    }

    /** Part 0 must leave part 1; part 2, beside its way, only touches what it passes. */
    private static ClashBoxes passing() {
        ClashBoxes c = new ClashBoxes();
        c.box(0, 500, 500, 500, 10, 10, 10);
        c.box(1, 500, 500, 500, 10, 10, 10);
        return c;
    }

    private static void shiftBesideTouches() {
        for (int side = 1; side < 3; side++) {
            ClashBoxes c = passing();
            c.box(2, 510, side == 1 ? 510 : 500, side == 2 ? 510 : 500, 10, 10, 10);
            due("a box beside the way across " + side, 10, () -> c.shift(0, 0, 1000));
            c.move(2, side, -1);
            due("a box in the way across " + side, -10, () -> c.shift(0, 0, 1000));
        }
        ClashBoxes beside = passing();
        beside.box(2, 510, 510, 500, 10, 10, 10);
        due("a box beside the way along 1", 10, () -> beside.shift(0, 1, 1000));
        beside.move(2, 0, -1);
        due("a box in the way along 1", -10, () -> beside.shift(0, 1, 1000));
        ClashBoxes along = passing();
        along.tube(2, 0, 512, 10, 513, 514, 5);
        due("a tube along the way, that touches", 10, () -> along.shift(0, 0, 1000));
        along.move(2, 1, -1);
        due("a tube along the way, nearer", -10, () -> along.shift(0, 0, 1000));
        ClashBoxes across = passing();
        across.tube(2, 1, 510, 10, 512, 505, 5);
        due("a tube across the way, that touches", 10, () -> across.shift(0, 0, 1000));
        across.move(2, 1, -1);
        due("a tube across the way", -10, () -> across.shift(0, 0, 1000));
        due("the tube, the shorter way", 3, () -> across.shift(2, 0, 1000));
        across.move(2, 0, 3);
        across.drop(1);
        due("a box that meets no tube yet", 0, () -> across.shift(0, 0, 1000));
        across.move(2, 0, -14);
        due("a box past a tube to greater numbers", 6, () -> across.shift(0, 0, 1000));
        across.move(2, 2, 10);
        due("a tube as far as its radius", 0, () -> across.shift(0, 0, 1000));
        across.drop(2);
        across.tube(3, 1, 500, 10, 501, 505, 1);
        due("a box past the thinnest tube", 2, () -> across.shift(0, 0, 1000));
        across.move(3, 0, -1);
        due("a box with the thinnest tube in its edge", 1, () -> across.shift(0, 0, 1000));
    }

    private static void wrongShifts() {
        ClashBoxes c = small();
        int[][] calls = {{-1, 0, 1}, {4, 0, 1}, {60, 0, 1}, {0, -1, 1}, {0, 3, 1}, {0, 0, -1}, {0, 0, 1001},
            {BEYOND[0], 0, 0}, {BEYOND[1], 0, 0}, {0, BEYOND[0], 0}, {0, BEYOND[1], 0}, {0, 0, BEYOND[0]}, {0, 0, BEYOND[1]}};
        for (int[] a : calls) {
            argument(c, "shift" + java.util.Arrays.toString(a), () -> c.shift(a[0], a[1], a[2]));
        }
        c.drop(0);
        argument(c, "shift of a dropped part", () -> c.shift(0, 0, 1));
    }

    private static void hull() {
        ClashBoxes c = small();
        int[][] ends = {{100, 110, 100, 110, 100, 110}, {105, 115, 105, 115, 105, 115}, {115, 125, 105, 115, 100, 150}};
        for (int i = 0; i < ends.length; i++) {
            for (int j = 0; j < 6; j++) {
                int part = i;
                int end = j;
                due("hull(" + i + ", " + j / 2 + ", " + j % 2 + ")", ends[i][j], () -> c.hull(part, end / 2, end % 2));
            }
        }
        int[][] calls = {{-1, 0, 0}, {4, 0, 0}, {60, 0, 0}, {0, -1, 0}, {0, 3, 0}, {0, 0, -1}, {0, 0, 2},
            {BEYOND[0], 0, 0}, {BEYOND[1], 0, 0}, {0, BEYOND[0], 0}, {0, BEYOND[1], 0}, {0, 0, BEYOND[0]}, {0, 0, BEYOND[1]}};
        for (int[] a : calls) {
            argument(c, "hull" + java.util.Arrays.toString(a), () -> c.hull(a[0], a[1], a[2]));
        }
        c.drop(2);
        argument(c, "hull of a dropped part", () -> c.hull(2, 0, 0));
    }

    private static void parts() {
        ClashBoxes c = small();
        due("parts()", 4, () -> c.parts());
        c.tube(0, 0, 0, 1, 0, 0, 1);
        due("parts() with one more", 5, () -> c.parts());
        c.drop(0);
        c.drop(3);
        due("parts() without two", 3, () -> c.parts());
        c.move(1, 0, 1);
        due("parts() behind a move", 3, () -> c.parts());
    }

    private static void run(String name, Runnable tests) {
        promise = name;
        tests.run();
    }

    public static void main(String[] args) {
        run("promise 1, a new object", ClashBoxesPromises::newObject);
        run("promise 2, box", ClashBoxesPromises::box);
        run("promise 3, tube", ClashBoxesPromises::tube);
        run("promise 4, margin", ClashBoxesPromises::margin);
        run("promise 5, free", ClashBoxesPromises::free);
        run("promise 6, move", ClashBoxesPromises::move);
        run("promise 7, drop", ClashBoxesPromises::drop);
        run("promise 8, pair of boxes", ClashBoxesPromises::pairOfBoxes);
        run("promise 8, pair of a box and a tube", ClashBoxesPromises::pairOfBoxAndTube);
        run("promise 8, pair of tubes", ClashBoxesPromises::pairOfTubes);
        run("promise 8, pair of crossed tubes", ClashBoxesPromises::pairOfCrossedTubes);
        run("promise 8, wrong pairs", ClashBoxesPromises::wrongPairs);
        run("promise 9, clashes", ClashBoxesPromises::clashes);
        run("promise 10, clash", ClashBoxesPromises::clash);
        run("promise 11, groups", ClashBoxesPromises::groups);
        run("promise 12, group", ClashBoxesPromises::group);
        run("promise 13, common", ClashBoxesPromises::common);
        run("promise 14, inside", ClashBoxesPromises::inside);
        run("promise 15, shift", ClashBoxesPromises::shift);
        run("promise 16, hull", ClashBoxesPromises::hull);
        run("promise 17, parts", ClashBoxesPromises::parts);
        System.out.println(wrong == 0 ? "all answers are as due" : wrong + " answers are not as due");
        if (wrong != 0) {
            System.exit(1);
        }
    }
}
