import java.util.Arrays;

/**
 * Each sentence of the document that names a boundary, in a test of its own. Every object here stays
 * within the 512 calls that the document speaks of.
 */
public final class ClashBoxesEdges {
    private static final String ARGUMENT = "throws.IllegalArgumentException";
    private static final String STATE = "throws.IllegalStateException";
    private static final int LEAST = Integer.MIN_VALUE;
    private static final int GREATEST = Integer.MAX_VALUE;
    private static final int NONE = -1;
    private static final int NO = -10000;
    private static final int SOFT = 1;
    private static final int HARD = 2;

    private static int wrong = 0;
    private static String sentence = "";

    private static void report(String what, String got, Object want) {
        if (!got.equals(String.valueOf(want))) {
            wrong++;
            System.out.println(sentence + ": " + what + " answered " + got + ", due is " + want);
        }
    }

    /** One object and the calls on it. */
    private static final class Run {
        private final ClashBoxes c = new ClashBoxes();
        private int calls = 0;

        private Object answer(String call, int[] n) {
            switch (call) {
                case "box": return c.box(n[0], n[1], n[2], n[3], n[4], n[5], n[6]);
                case "tube": return c.tube(n[0], n[1], n[2], n[3], n[4], n[5], n[6]);
                case "margin": return c.margin(n[0], n[1]);
                case "free": return c.free(n[0], n[1], n[2] != 0);
                case "move": return c.move(n[0], n[1], n[2]);
                case "drop": return c.drop(n[0]);
                case "pair": return c.pair(n[0], n[1]);
                case "clashes": return c.clashes(n[0]);
                case "clash": return c.clash(n[0], n[1], n[2]);
                case "groups": return c.groups();
                case "group": return c.group(n[0]);
                case "common": return c.common(n[0], n[1]);
                case "inside": return c.inside(n[0], n[1], n[2], n[3], n[4], n[5], n[6]);
                case "shift": return c.shift(n[0], n[1], n[2]);
                case "hull": return c.hull(n[0], n[1], n[2]);
                case "parts": return c.parts();
                default: throw new AssertionError("no call " + call);
            }
        }

        String ask(String call, int... n) {
            calls++;
            if (calls > 512) {
                throw new AssertionError("a test of more than 512 calls in: " + sentence);
            }
            try {
                return String.valueOf(answer(call, n));
            } catch (RuntimeException e) {
                return "throws." + e.getClass().getSimpleName();
            }
        }

        /** A call that the test only needs to have been made. */
        Run with(String call, int... n) {
            String got = ask(call, n);
            if (got.startsWith("throws.")) {
                report(call + Arrays.toString(n), got, "no exception");
            }
            return this;
        }

        Run due(Object want, String call, int... n) {
            report(call + Arrays.toString(n), ask(call, n), want);
            return this;
        }

        Run box(int kind, int x, int y, int z, int dx, int dy, int dz) {
            return with("box", kind, x, y, z, dx, dy, dz);
        }

        /** A cube with edges of 10. */
        Run cube(int kind, int x, int y, int z) {
            return box(kind, x, y, z, 10, 10, 10);
        }

        Run tube(int kind, int axis, int from, int length, int u, int v, int radius) {
            return with("tube", kind, axis, from, length, u, v, radius);
        }

        /** The pair of parts 0 and 1, asked in both orders. */
        Run duePair(int want) {
            return due(want, "pair", 0, 1).due(want, "pair", 1, 0);
        }

        Run dueHull(int part, int... ends) {
            for (int i = 0; i < 6; i++) {
                due(ends[i], "hull", part, i / 2, i % 2);
            }
            return this;
        }
    }

    // ---- Bounds of all arguments. A call that throws is compared with a twin that never made it.

    /** Parts 0, 1, 2, 4, 5, with hard and soft pairs, margins and free kinds; 3 is gone, 6 is next. */
    private static Run scene() {
        return new Run()
            .cube(0, 100, 100, 100)
            .cube(1, 105, 105, 105)
            .tube(2, 2, 100, 50, 120, 110, 5)
            .cube(3, 100, 100, 100)
            .tube(4, 0, 110, 30, 115, 140, 4)
            .box(5, 118, 108, 138, 4, 4, 4)
            .with("margin", 0, 1).with("margin", 2, 3).with("margin", 5, 50)
            .with("free", 4, 5, 1).with("free", 6, 6, 1).with("drop", 3);
    }

    /** All that can be asked of a scene; margins and free kinds are told by setting them, so come last. */
    private static String allOf(Run run) {
        StringBuilder all = new StringBuilder();
        all.append(run.ask("parts")).append(' ').append(run.ask("groups"));
        all.append(' ').append(run.ask("clashes", 1)).append(' ').append(run.ask("clashes", 2));
        int[] there = {0, 1, 2, 4, 5};
        for (int part : there) {
            all.append(" | ").append(run.ask("group", part));
            for (int i = 0; i < 6; i++) {
                all.append(' ').append(run.ask("hull", part, i / 2, i % 2));
            }
            for (int axis = 0; axis < 3; axis++) {
                all.append(' ').append(run.ask("shift", part, axis, 1000));
            }
            for (int other : there) {
                all.append(' ').append(run.ask("pair", part, other));
            }
        }
        for (int part : there) {
            all.append(' ').append(run.ask("margin", part, 0));
        }
        for (int kind = 0; kind < 8; kind++) {
            for (int other = kind; other < 8; other++) {
                all.append(' ').append(run.ask("free", kind, other, 0));
            }
        }
        all.append(' ').append(run.ask("group", 3)).append(' ').append(run.ask("box", 0, 0, 0, 0, 1, 1, 1));
        return all.toString();
    }

    private static void refused(String call, int... n) {
        Run run = scene().due(ARGUMENT, call, n);
        report("all else behind " + call + Arrays.toString(n), allOf(run), allOf(scene()));
    }

    private static void accepted(String call, int... n) {
        scene().with(call, n);
    }

    private static int[] changed(int[] base, int place, int number) {
        int[] n = base.clone();
        n[place] = number;
        return n;
    }

    /** The argument at a place of the call has the bounds least .. greatest, if the others are those of base. */
    private static void bounds(String call, int place, int least, int greatest, int... base) {
        accepted(call, changed(base, place, least));
        accepted(call, changed(base, place, greatest));
        refused(call, changed(base, place, LEAST));
        refused(call, changed(base, place, least - 1));
        if (greatest != GREATEST) {
            refused(call, changed(base, place, greatest + 1));
            refused(call, changed(base, place, GREATEST));
        }
    }

    /** The argument at a place is a part: the others of base are neither 4 nor 5. */
    private static void partBounds(String call, int place, int... base) {
        accepted(call, changed(base, place, 4));
        accepted(call, changed(base, place, 5));
        int[] notThere = {LEAST, -1, 3, 6, 59, 60, GREATEST};
        for (int part : notThere) {
            refused(call, changed(base, place, part));
        }
    }

    private static void boundsOfBox() {
        bounds("box", 0, 0, 7, 0, 500, 500, 500, 10, 10, 10);
        for (int axis = 0; axis < 3; axis++) {
            // A box goes beyond 1000 by its start, by its length, or by both together.
            bounds("box", 1 + axis, 0, 990, 0, 500, 500, 500, 10, 10, 10);
            bounds("box", 1 + axis, 0, 999, 0, 500, 500, 500, 1, 1, 1);
            bounds("box", 1 + axis, 0, 0, 0, 0, 0, 0, 1000, 1000, 1000);
            bounds("box", 4 + axis, 1, 500, 0, 500, 500, 500, 10, 10, 10);
            bounds("box", 4 + axis, 1, 1000, 0, 0, 0, 0, 10, 10, 10);
            bounds("box", 4 + axis, 1, 1, 0, 999, 999, 999, 1, 1, 1);
            refused("box", changed(changed(new int[] {0, 1, 1, 1, 1, 1, 1}, 1 + axis, GREATEST), 4 + axis, GREATEST));
            refused("box", changed(changed(new int[] {0, 1, 1, 1, 1, 1, 1}, 1 + axis, -5), 4 + axis, 10));
            refused("box", changed(changed(new int[] {0, 1, 1, 1, 1, 1, 1}, 1 + axis, 1000), 4 + axis, -10));
        }
    }

    private static void boundsOfTube() {
        bounds("tube", 0, 0, 7, 0, 0, 500, 10, 500, 500, 10);
        bounds("tube", 1, 0, 2, 0, 0, 500, 10, 500, 500, 10);
        for (int axis = 0; axis < 3; axis++) {
            bounds("tube", 2, 0, 990, 0, axis, 500, 10, 500, 500, 10);
            bounds("tube", 2, 0, 999, 0, axis, 500, 1, 500, 500, 10);
            bounds("tube", 2, 0, 0, 0, axis, 0, 1000, 500, 500, 10);
            bounds("tube", 3, 1, 500, 0, axis, 500, 10, 500, 500, 10);
            bounds("tube", 3, 1, 1000, 0, axis, 0, 10, 500, 500, 10);
            bounds("tube", 3, 1, 1, 0, axis, 999, 1, 500, 500, 10);
            bounds("tube", 4, 0, 1000, 0, axis, 500, 10, 500, 500, 200);
            bounds("tube", 5, 0, 1000, 0, axis, 500, 10, 500, 500, 200);
            bounds("tube", 6, 1, 200, 0, axis, 500, 10, 0, 1000, 10);
            refused("tube", 0, axis, GREATEST, GREATEST, 500, 500, 10);
            refused("tube", 0, axis, -5, 10, 500, 500, 10);
            refused("tube", 0, axis, 1000, -10, 500, 500, 10);
        }
    }

    private static void boundsOfChanges() {
        partBounds("margin", 0, 0, 10);
        bounds("margin", 1, 0, 50, 0, 10);
        bounds("free", 0, 0, 7, 0, 1, 1);
        bounds("free", 1, 0, 7, 0, 1, 1);
        bounds("free", 0, 0, 7, 4, 5, 0);
        bounds("free", 1, 0, 7, 4, 5, 0);
        refused("free", 8, 8, 1);
        refused("free", -1, -1, 1);
        partBounds("move", 0, 0, 0, 1);
        bounds("move", 1, 0, 2, 0, 0, 1);
        bounds("move", 2, -1000, 1000, 0, 0, 1);
        bounds("move", 2, -1000, 1000, 2, 1, 1);
        partBounds("drop", 0, 0);
    }

    private static void boundsOfClashes() {
        partBounds("pair", 0, 0, 1);
        partBounds("pair", 1, 0, 1);
        bounds("clashes", 0, 1, 2, 1);
        for (int state = 1; state <= 2; state++) {
            bounds("clash", 0, 1, 2, state, 0, 0);
            bounds("clash", 1, 0, GREATEST, state, 0, 0);
            bounds("clash", 2, 0, 1, state, 0, 0);
            // A pair that there is none of does not make a wrong number right.
            bounds("clash", 2, 0, 1, state, 1000, 0);
        }
        partBounds("group", 0, 0);
        partBounds("common", 0, 0, 1);
        partBounds("common", 1, 0, 1);
    }

    private static void boundsOfLooking() {
        for (int axis = 0; axis < 3; axis++) {
            bounds("inside", axis, -2000, 0, 0, 0, 0, 1, 1, 1, 0);
            bounds("inside", axis, -2000, 1999, 0, 0, 0, 2000, 2000, 2000, 0);
            bounds("inside", axis, -2000, -2000, -2000, -2000, -2000, -1999, -1999, -1999, 0);
            bounds("inside", 3 + axis, 1, 2000, 0, 0, 0, 1, 1, 1, 0);
            bounds("inside", 3 + axis, -1999, 2000, -2000, -2000, -2000, 1, 1, 1, 0);
            bounds("inside", 3 + axis, 2000, 2000, 1999, 1999, 1999, 2000, 2000, 2000, 0);
        }
        bounds("inside", 6, 0, GREATEST, 0, 0, 0, 1, 1, 1, 0);
        partBounds("shift", 0, 0, 0, 5);
        bounds("shift", 1, 0, 2, 0, 0, 5);
        bounds("shift", 2, 0, 1000, 0, 0, 5);
        partBounds("hull", 0, 0, 0, 0);
        bounds("hull", 1, 0, 2, 0, 0, 0);
        bounds("hull", 2, 0, 1, 0, 0, 0);
    }

    private static void alsoIfTheyAreOne() {
        int[] there = {0, 1, 2, 4, 5};
        for (int part : there) {
            refused("pair", part, part);
            refused("common", part, part);
        }
        refused("pair", 3, 3);
        refused("common", 3, 3);
        refused("pair", 6, 6);
        refused("common", 6, 6);
    }

    // ---- There were 60 parts.

    private static Run full() {
        Run run = new Run();
        for (int i = 0; i < 60; i++) {
            if (i % 2 == 0) {
                run.due(i, "box", i % 8, i * 10, 0, 0, 10, 10, 10);
            } else {
                run.due(i, "tube", i % 8, 0, i * 10, 5, 5, 5, 5);
            }
        }
        return run;
    }

    private static String mostOf(Run run) {
        StringBuilder all = new StringBuilder();
        all.append(run.ask("parts")).append(' ').append(run.ask("groups"));
        all.append(' ').append(run.ask("clashes", 1)).append(' ').append(run.ask("clashes", 2));
        for (int part = 0; part < 60; part++) {
            all.append(' ').append(run.ask("margin", part, 50));
            all.append(' ').append(run.ask("hull", part, 0, 0)).append(' ').append(run.ask("hull", part, 2, 1));
        }
        all.append(' ').append(run.ask("clashes", 1));
        return all.toString();
    }

    private static void refusedWhenFull(String want, String call, int... n) {
        Run run = full().due(want, call, n);
        report("all else behind " + call + Arrays.toString(n), mostOf(run), mostOf(full()));
    }

    private static void thereWere60Parts() {
        full().due(60, "parts").dueHull(59, 590, 595, 0, 10, 0, 10).due(0, "pair", 59, 58).due(0, "margin", 59, 50)
            .due(SOFT, "pair", 58, 59).due(true, "move", 59, 0, -1).due(HARD, "pair", 59, 58).due(58, "group", 59);
        refusedWhenFull(STATE, "box", 0, 0, 0, 0, 1, 1, 1);
        refusedWhenFull(STATE, "box", 7, 0, 0, 0, 1000, 1000, 1000);
        refusedWhenFull(STATE, "tube", 0, 0, 0, 1, 0, 0, 1);
        refusedWhenFull(STATE, "tube", 7, 2, 0, 1000, 1000, 1000, 200);
    }

    private static void droppedPartsWereThereToo() {
        full().due(59, "drop", 0).due(STATE, "box", 0, 0, 0, 0, 1, 1, 1).due(59, "parts");
        full().due(59, "drop", 59).due(STATE, "tube", 0, 0, 0, 1, 0, 0, 1).due(59, "parts");
        Run emptied = full();
        for (int part = 0; part < 60; part++) {
            emptied.due(59 - part, "drop", part);
        }
        emptied.due(0, "parts").due(STATE, "box", 0, 0, 0, 0, 1, 1, 1).due(STATE, "tube", 0, 0, 0, 1, 0, 0, 1);
        emptied.due(0, "parts").due(ARGUMENT, "box", 8, 0, 0, 0, 1, 1, 1);
        // The 60 parts are those that were made, not the calls that tried to.
        Run tried = new Run();
        for (int i = 0; i < 100; i++) {
            tried.due(ARGUMENT, "box", 0, 0, 0, 0, 0, 1, 1).due(ARGUMENT, "tube", 0, 0, 0, 1, 0, 0, 0);
        }
        for (int i = 0; i < 60; i++) {
            tried.due(i, "box", 0, 0, 0, 0, 1, 1, 1);
        }
        tried.due(STATE, "box", 0, 0, 0, 0, 1, 1, 1);
    }

    private static void theOneNamedFirst() {
        int[] box = {0, 500, 500, 500, 10, 10, 10};
        int[] tube = {0, 0, 500, 10, 500, 500, 10};
        int[][] wrongOfBox = {{-1, 8}, {-1, 991}, {-1, 991}, {-1, 991}, {0, 501}, {0, 501}, {0, 501}};
        int[][] wrongOfTube = {{-1, 8}, {-1, 3}, {-1, 991}, {0, 501}, {-1, 1001}, {-1, 1001}, {0, 201}};
        for (int place = 0; place < 7; place++) {
            for (int i = 0; i < 2; i++) {
                refusedWhenFull(ARGUMENT, "box", changed(box, place, wrongOfBox[place][i]));
                refusedWhenFull(ARGUMENT, "tube", changed(tube, place, wrongOfTube[place][i]));
            }
        }
    }

    // ---- Terms.

    private static void aNewObject() {
        Run run = new Run().due(0, "parts").due(0, "groups").due(0, "clashes", 1).due(0, "clashes", 2);
        for (int state = 1; state <= 2; state++) {
            run.due(NONE, "clash", state, 0, 0).due(NONE, "clash", state, 0, 1);
        }
        run.due(NONE, "inside", -2000, -2000, -2000, 2000, 2000, 2000, 0);
        int[] parts = {0, 59};
        for (int part : parts) {
            run.due(ARGUMENT, "margin", part, 0).due(ARGUMENT, "move", part, 0, 0).due(ARGUMENT, "drop", part);
            run.due(ARGUMENT, "group", part).due(ARGUMENT, "shift", part, 0, 0).due(ARGUMENT, "hull", part, 0, 0);
            run.due(ARGUMENT, "pair", part, 1).due(ARGUMENT, "common", part, 1);
        }
        for (int kind = 0; kind < 8; kind++) {
            for (int other = 0; other < 8; other++) {
                run.due(false, "free", kind, other, 0);
            }
        }
        run.due(0, "box", 0, 0, 0, 0, 1, 1, 1).due(0, "margin", 0, 0);
        new Run().due(0, "tube", 0, 0, 0, 1, 0, 0, 1).due(0, "margin", 0, 0);
    }

    private static void boxesOverlapByMoreThan0() {
        for (int axis = 0; axis < 3; axis++) {
            int[] steps = {-10, -9, 9, 10};
            for (int step : steps) {
                int[] at = changed(new int[] {500, 500, 500}, axis, 500 + step);
                Run run = new Run().cube(0, 500, 500, 500).cube(1, at[0], at[1], at[2]);
                run.duePair(Math.abs(step) < 10 ? HARD : 0);
            }
        }
        new Run().cube(0, 500, 500, 500).cube(1, 509, 491, 509).duePair(HARD);
        new Run().cube(0, 500, 500, 500).cube(1, 510, 510, 510).duePair(0);
        new Run().box(0, 0, 0, 0, 1000, 1000, 1000).box(1, 999, 0, 999, 1, 1, 1).duePair(HARD);
        new Run().box(0, 0, 0, 0, 1, 1, 1).box(1, 1, 0, 0, 999, 1000, 1000).duePair(0);
    }

    /** A box that is 500 .. 510 across the axis and 500 .. 510 along it, with a tube. */
    private static Run boxAndTube(int axis, int from, int u, int v, int radius) {
        return new Run().cube(0, 500, 500, 500).tube(1, axis, from, 20, u, v, radius);
    }

    private static void boxAndTubeAlongTheAxis() {
        for (int axis = 0; axis < 3; axis++) {
            boxAndTube(axis, 480, 505, 505, 200).duePair(0);
            boxAndTube(axis, 481, 505, 505, 1).duePair(HARD);
            boxAndTube(axis, 509, 505, 505, 1).duePair(HARD);
            boxAndTube(axis, 510, 505, 505, 200).duePair(0);
        }
    }

    private static void theSquareIsLessThanThatOfTheRadius() {
        // Each centre is just 5 from the rectangle 500 .. 510, at its four sides and four corners.
        int[][] centres = {{495, 505}, {515, 505}, {505, 495}, {505, 515}, {496, 497}, {514, 497}, {496, 513}, {513, 514}};
        for (int axis = 0; axis < 3; axis++) {
            for (int[] centre : centres) {
                boxAndTube(axis, 495, centre[0], centre[1], 5).duePair(0);
                boxAndTube(axis, 495, centre[0], centre[1], 6).duePair(HARD);
            }
            // 140 and 143 are 200.1.. away, 140 and 142 are 199.4..
            boxAndTube(axis, 495, 650, 653, 200).duePair(0);
            boxAndTube(axis, 495, 650, 652, 200).duePair(HARD);
            // The hulls meet, but not so the round tube.
            boxAndTube(axis, 495, 514, 514, 5).duePair(0);
        }
    }

    private static void distance0IfTheCentreIsInTheRectangle() {
        int[][] centres = {{505, 505}, {500, 505}, {510, 505}, {505, 500}, {505, 510}, {500, 500}, {510, 510}};
        for (int axis = 0; axis < 3; axis++) {
            for (int[] centre : centres) {
                boxAndTube(axis, 495, centre[0], centre[1], 1).duePair(HARD);
            }
            boxAndTube(axis, 495, 499, 505, 1).duePair(0);
            boxAndTube(axis, 495, 505, 511, 1).duePair(0);
        }
    }

    private static Run twoTubes(int axis, int from, int u, int v, int radius) {
        return new Run().tube(0, axis, 500, 20, 500, 500, 10).tube(1, axis, from, 20, u, v, radius);
    }

    private static void tubesOfOneAxis() {
        int[][] centres = {{485, 500}, {515, 500}, {500, 485}, {500, 515}, {491, 488}, {509, 488}, {488, 509}, {512, 509}};
        for (int axis = 0; axis < 3; axis++) {
            for (int[] centre : centres) {
                twoTubes(axis, 510, centre[0], centre[1], 5).duePair(0);
                twoTubes(axis, 510, centre[0], centre[1], 6).duePair(HARD);
            }
            twoTubes(axis, 480, 500, 500, 200).duePair(0);
            twoTubes(axis, 481, 500, 500, 1).duePair(HARD);
            twoTubes(axis, 519, 500, 500, 1).duePair(HARD);
            twoTubes(axis, 520, 500, 500, 200).duePair(0);
            // 28 and 28 are 39.6 away, 28 and 29 are 40.3, with radii of 10 and 30.
            twoTubes(axis, 510, 528, 472, 30).duePair(HARD);
            twoTubes(axis, 510, 528, 471, 30).duePair(0);
            // 240 and 320 are 400 away: the sum of the greatest radii.
            new Run().tube(0, axis, 0, 1, 240, 320, 200).tube(1, axis, 0, 1, 0, 0, 200).duePair(0);
            new Run().tube(0, axis, 0, 1, 240, 319, 200).tube(1, axis, 0, 1, 0, 0, 200).duePair(HARD);
            new Run().tube(0, axis, 0, 1, 1000, 1000, 200).tube(1, axis, 0, 1, 0, 0, 200).duePair(0);
        }
    }

    private static void tubesOfTwoAxes() {
        for (int axis = 0; axis < 3; axis++) {
            for (int other = 0; other < 3; other++) {
                if (axis != other) {
                    crossedTubes(axis, other);
                }
            }
        }
    }

    /** Their hulls have corners in common where the round tubes have no points at all. */
    private static void crossedTubes(int axis, int other) {
        // The first is 500 .. 520 along its axis and 490 .. 510 across it, as the second is about its centre.
        crossed(axis, other, 490, 490, 500).duePair(0);
        crossed(axis, other, 491, 490, 500).duePair(HARD);
        crossed(axis, other, 529, 490, 500).duePair(HARD);
        crossed(axis, other, 530, 490, 500).duePair(0);
        crossed(axis, other, 510, 480, 500).duePair(HARD);
        crossed(axis, other, 510, 471, 500).duePair(HARD);
        crossed(axis, other, 510, 470, 500).duePair(0);
        crossed(axis, other, 510, 509, 500).duePair(HARD);
        crossed(axis, other, 510, 510, 500).duePair(0);
        crossed(axis, other, 510, 490, 519).duePair(HARD);
        crossed(axis, other, 510, 490, 520).duePair(0);
        crossed(axis, other, 510, 490, 481).duePair(HARD);
        crossed(axis, other, 510, 490, 480).duePair(0);
        // At the corner of both hulls the rounds are far apart; hulls decide all the same.
        crossed(axis, other, 529, 509, 519).duePair(HARD);
        crossed(axis, other, 529, 509, 520).duePair(0);
        crossed(axis, other, 529, 509, 519).due(509, "hull", 1, 3 - axis - other, 0);
    }

    /** A tube along axis and one along other: its centre along the first's axis, its start, its centre along the third. */
    private static Run crossed(int axis, int other, int centre, int from, int third) {
        boolean firstIsLesser = axis < 3 - axis - other;
        return new Run().tube(0, axis, 500, 20, 500, 500, 10)
            .tube(1, other, from, 20, firstIsLesser ? centre : third, firstIsLesser ? third : centre, 10);
    }

    private static void grownOnEachSide() {
        for (int axis = 0; axis < 3; axis++) {
            int[] steps = {-60, -59, 59, 60};
            for (int step : steps) {
                int[] at = changed(new int[] {500, 500, 500}, axis, 500 + step);
                int want = Math.abs(step) < 60 ? SOFT : 0;
                new Run().cube(0, 500, 500, 500).cube(1, at[0], at[1], at[2]).with("margin", 0, 50).duePair(want);
                new Run().cube(0, 500, 500, 500).cube(1, at[0], at[1], at[2]).with("margin", 1, 50).duePair(want);
            }
        }
        // All three axes at once: a grown box keeps its corners.
        new Run().cube(0, 500, 500, 500).cube(1, 559, 441, 559).with("margin", 0, 50).duePair(SOFT);
        new Run().cube(0, 500, 500, 500).cube(1, 559, 440, 559).with("margin", 0, 50).duePair(0);
    }

    private static void aTubeGrowsAtItsEndsAndInItsRadius() {
        for (int axis = 0; axis < 3; axis++) {
            // At both ends.
            boxAndTube(axis, 430, 505, 505, 1).with("margin", 1, 50).duePair(0);
            boxAndTube(axis, 431, 505, 505, 1).with("margin", 1, 50).duePair(SOFT);
            boxAndTube(axis, 559, 505, 505, 1).with("margin", 1, 50).duePair(SOFT);
            boxAndTube(axis, 560, 505, 505, 1).with("margin", 1, 50).duePair(0);
            // In its radius, 3 and 4 from the corner, and grown it is round.
            boxAndTube(axis, 495, 513, 514, 3).with("margin", 1, 2).duePair(0);
            boxAndTube(axis, 495, 513, 514, 3).with("margin", 1, 3).duePair(SOFT);
            // At an end and in its radius at once.
            boxAndTube(axis, 512, 513, 514, 3).with("margin", 1, 3).duePair(SOFT);
            boxAndTube(axis, 513, 513, 514, 3).with("margin", 1, 3).duePair(0);
            // The box grown instead: it is nearer by its margin on both axes, and the radius stays.
            boxAndTube(axis, 495, 516, 517, 3).with("margin", 0, 3).duePair(0);
            boxAndTube(axis, 495, 516, 517, 3).with("margin", 0, 4).duePair(0);
            boxAndTube(axis, 495, 516, 517, 3).with("margin", 0, 5).duePair(SOFT);
            boxAndTube(axis, 495, 512, 505, 1).with("margin", 0, 1).duePair(0);
            boxAndTube(axis, 495, 512, 505, 1).with("margin", 0, 2).duePair(SOFT);
            boxAndTube(axis, 512, 505, 505, 3).with("margin", 0, 2).duePair(0);
            boxAndTube(axis, 512, 505, 505, 3).with("margin", 0, 3).duePair(SOFT);
            // Two tubes, 25 apart with radii of 10 and 5.
            twoTubes(axis, 510, 515, 520, 5).with("margin", 0, 10).duePair(0);
            twoTubes(axis, 510, 515, 520, 5).with("margin", 0, 11).duePair(SOFT);
            twoTubes(axis, 510, 515, 520, 5).with("margin", 1, 10).duePair(0);
            twoTubes(axis, 510, 515, 520, 5).with("margin", 1, 11).duePair(SOFT);
            twoTubes(axis, 525, 500, 500, 5).with("margin", 1, 5).duePair(0);
            twoTubes(axis, 525, 500, 500, 5).with("margin", 1, 6).duePair(SOFT);
            twoTubes(axis, 475, 500, 500, 5).with("margin", 0, 5).duePair(0);
            twoTubes(axis, 475, 500, 500, 5).with("margin", 0, 6).duePair(SOFT);
        }
        for (int part = 0; part < 2; part++) {
            // Two axes: apart by 5 along each axis in turn, the hull of the grown one decides.
            crossed(0, 2, 535, 490, 500).with("margin", part, 5).duePair(0);
            crossed(0, 2, 535, 490, 500).with("margin", part, 6).duePair(SOFT);
            crossed(0, 2, 510, 515, 500).with("margin", part, 5).duePair(0);
            crossed(0, 2, 510, 515, 500).with("margin", part, 6).duePair(SOFT);
            crossed(0, 2, 510, 490, 525).with("margin", part, 5).duePair(0);
            crossed(0, 2, 510, 490, 525).with("margin", part, 6).duePair(SOFT);
            crossed(0, 2, 535, 515, 525).with("margin", part, 6).duePair(SOFT);
        }
    }

    private static void eachByItsOwnMargin() {
        // A gap of 10: no margin of 10 reaches over it, nor do two of them together.
        new Run().cube(0, 0, 0, 0).cube(1, 20, 0, 0).with("margin", 0, 10).with("margin", 1, 10).duePair(0);
        new Run().cube(0, 0, 0, 0).cube(1, 20, 0, 0).with("margin", 0, 11).duePair(SOFT);
        new Run().cube(0, 0, 0, 0).cube(1, 20, 0, 0).with("margin", 1, 11).duePair(SOFT);
        new Run().cube(0, 0, 0, 0).cube(1, 20, 0, 0).with("margin", 0, 11).with("margin", 1, 11).duePair(SOFT);
        // A touch: any margin makes it soft, and none does not.
        new Run().cube(0, 0, 0, 0).cube(1, 10, 0, 0).duePair(0);
        new Run().cube(0, 0, 0, 0).cube(1, 10, 0, 0).with("margin", 1, 1).duePair(SOFT);
        // The margin of a third part does not matter.
        new Run().cube(0, 0, 0, 0).cube(1, 20, 0, 0).cube(2, 15, 0, 0).with("margin", 2, 50).duePair(0);
        // HARD goes before SOFT.
        new Run().cube(0, 0, 0, 0).cube(1, 9, 0, 0).with("margin", 0, 50).with("margin", 1, 50).duePair(HARD)
            .due(0, "clashes", 1).due(1, "clashes", 2);
    }

    private static void freeKindsAreNone() {
        Run run = new Run().cube(6, 0, 0, 0).cube(7, 5, 0, 0).cube(7, 12, 0, 0).with("margin", 2, 5);
        run.due(HARD, "pair", 0, 1).due(SOFT, "pair", 0, 2).due(HARD, "pair", 1, 2).due(1, "groups");
        run.due(false, "free", 6, 7, 1).due(0, "pair", 0, 1).due(0, "pair", 1, 0).due(0, "pair", 0, 2);
        run.due(HARD, "pair", 1, 2).due(1, "clashes", 2).due(0, "clashes", 1);
        run.due(0, "group", 0).due(1, "group", 1).due(1, "group", 2).due(0, "shift", 0, 0, 0);
        run.due(1, "clash", 2, 0, 0).due(2, "clash", 2, 0, 1).due(NONE, "clash", 1, 0, 0);
        run.due(false, "free", 7, 7, 1).due(0, "pair", 1, 2).due(0, "clashes", 2).due(0, "groups");
        run.due(true, "free", 7, 6, 0).due(HARD, "pair", 0, 1).due(SOFT, "pair", 0, 2).due(0, "pair", 1, 2);
        // Kinds that no part has are free or not by themselves.
        run.due(false, "free", 0, 0, 1).due(false, "free", 0, 7, 1).due(true, "free", 0, 0, 0).due(true, "free", 7, 0, 1);
        run.due(HARD, "pair", 0, 1);
        // Free kinds stay free for parts that come later, and free of margins or not.
        run.cube(7, 5, 0, 0).due(0, "pair", 1, 3).due(HARD, "pair", 0, 3);
    }

    private static void freeIsOfTwoKindsEachWay() {
        for (int kind = 0; kind < 8; kind++) {
            for (int other = 0; other < 8; other++) {
                Run run = new Run().due(false, "free", kind, other, 1).due(true, "free", other, kind, 1);
                run.due(true, "free", kind, other, 0).due(false, "free", other, kind, 0).due(false, "free", kind, other, 1);
                dueAlone(run, Math.min(kind, other), Math.max(kind, other));
            }
        }
    }

    /** Of all kinds just these two are free of one another. */
    private static void dueAlone(Run run, int lesser, int greater) {
        for (int i = 0; i < 8; i++) {
            for (int j = i; j < 8; j++) {
                run.due(i == lesser && j == greater, "free", j, i, 0);
            }
        }
    }

    // ---- Promises 6 to 17.

    private static void moveWouldLeave() {
        for (int axis = 0; axis < 3; axis++) {
            int[] ends = {300, 310, 300, 310, 300, 310};
            Run box = new Run().cube(0, 300, 300, 300);
            box.due(false, "move", 0, axis, -301).due(false, "move", 0, axis, 691);
            box.due(false, "move", 0, axis, -1000).due(false, "move", 0, axis, 1000).dueHull(0, ends);
            box.due(true, "move", 0, axis, -300).dueHull(0, changed(changed(ends, 2 * axis, 0), 2 * axis + 1, 10));
            box.due(true, "move", 0, axis, 990).dueHull(0, changed(changed(ends, 2 * axis, 990), 2 * axis + 1, 1000));
            box.due(true, "move", 0, axis, 0).due(false, "move", 0, axis, 1).due(true, "move", 0, axis, -1);
            Run whole = new Run().box(0, 0, 0, 0, 1000, 1000, 1000);
            whole.due(false, "move", 0, axis, 1).due(false, "move", 0, axis, -1).due(true, "move", 0, axis, 0);
        }
    }

    private static void moveOfATube() {
        for (int axis = 0; axis < 3; axis++) {
            // Along its axis from end to end.
            Run along = new Run().tube(0, axis, 300, 10, 0, 1000, 200);
            along.due(false, "move", 0, axis, -301).due(false, "move", 0, axis, 691);
            along.due(300, "hull", 0, axis, 0).due(310, "hull", 0, axis, 1);
            along.due(true, "move", 0, axis, -300).due(0, "hull", 0, axis, 0).due(10, "hull", 0, axis, 1);
            along.due(true, "move", 0, axis, 990).due(990, "hull", 0, axis, 0).due(1000, "hull", 0, axis, 1);
            for (int across = 0; across < 3; across++) {
                if (across != axis) {
                    moveOfATubeAcross(axis, across);
                }
            }
        }
    }

    /** Across its axis only the centre counts, whatever the radius. */
    private static void moveOfATubeAcross(int axis, int across) {
        Run run = new Run().tube(0, axis, 0, 1000, 300, 300, 200);
        run.due(false, "move", 0, across, -301).due(false, "move", 0, across, 701);
        run.due(100, "hull", 0, across, 0).due(500, "hull", 0, across, 1);
        run.due(true, "move", 0, across, -300).due(-200, "hull", 0, across, 0).due(200, "hull", 0, across, 1);
        run.due(false, "move", 0, across, -1).due(true, "move", 0, across, 1000);
        run.due(800, "hull", 0, across, 0).due(1200, "hull", 0, across, 1).due(false, "move", 0, across, 1);
        run.due(true, "move", 0, across, -1000).due(-200, "hull", 0, across, 0);
        run.due(0, "hull", 0, axis, 0).due(1000, "hull", 0, axis, 1);
        run.due(100, "hull", 0, 3 - axis - across, 0).due(500, "hull", 0, 3 - axis - across, 1);
    }

    private static void aMoveMovesOneAlone() {
        Run run = new Run().cube(0, 0, 0, 0).cube(0, 0, 0, 0).with("margin", 0, 7);
        run.due(true, "move", 0, 1, 500).dueHull(0, 0, 10, 500, 510, 0, 10).dueHull(1, 0, 10, 0, 10, 0, 10);
        run.due(7, "margin", 0, 0).due(0, "margin", 1, 0).due(0, "pair", 0, 1).due(2, "parts");
    }

    private static void aNumberDoesNotComeAgain() {
        Run run = new Run();
        for (int number = 0; number < 60; number++) {
            run.due(number, "box", 0, 0, 0, 0, 1, 1, 1).due(0, "drop", number);
            run.due(ARGUMENT, "drop", number).due(ARGUMENT, "hull", number, 0, 0);
        }
        run.due(0, "parts").due(STATE, "box", 0, 0, 0, 0, 1, 1, 1);
        Run last = new Run().cube(0, 0, 0, 0).cube(0, 5, 0, 0).due(1, "drop", 1).due(1, "parts");
        last.due(0, "clashes", 2).due(0, "groups").due(NONE, "clash", 2, 0, 0).due(NONE, "inside", 11, 0, 0, 12, 1, 1, 0);
        last.due(2, "tube", 0, 0, 0, 1, 0, 0, 1).due(2, "parts").due(1, "drop", 0).due(0, "drop", 2).due(0, "parts");
    }

    private static void droppedPartsAreNoLongerSeen() {
        Run run = new Run().cube(0, 0, 0, 0).cube(0, 5, 0, 0).cube(0, 8, 0, 0).with("margin", 1, 50);
        run.due(3, "clashes", 2).due(1, "groups").due(18, "shift", 0, 0, 1000);
        run.due(2, "drop", 1).due(1, "clashes", 2).due(0, "clash", 2, 0, 0).due(2, "clash", 2, 0, 1);
        run.due(NONE, "clash", 2, 1, 0).due(2, "inside", 0, 0, 0, 10, 10, 10, 1).due(NONE, "inside", 0, 0, 0, 10, 10, 10, 2);
        run.due(1, "drop", 0).due(0, "clashes", 2).due(0, "clashes", 1).due(0, "groups").due(2, "group", 2);
        run.due(0, "shift", 2, 0, 0).due(0, "drop", 2).due(NONE, "inside", -2000, -2000, -2000, 2000, 2000, 2000, 0);
    }

    private static void marginWhatItWas() {
        new Run().cube(0, 0, 0, 0).tube(0, 0, 0, 1, 0, 0, 1)
            .due(0, "margin", 0, 50).due(0, "margin", 1, 1).due(50, "margin", 0, 0).due(0, "margin", 0, 0)
            .due(1, "margin", 1, 50).due(50, "margin", 1, 50).due(50, "margin", 1, 0)
            .due(ARGUMENT, "margin", 0, 51).due(0, "margin", 0, 3).due(ARGUMENT, "margin", 0, -1).due(3, "margin", 0, 3);
    }

    private static void allPairs() {
        Run run = new Run();
        for (int i = 0; i < 60; i++) {
            run.cube(i % 8, 0, 0, 0);
        }
        run.due(1770, "clashes", 2).due(0, "clashes", 1).due(1, "groups").due(0, "group", 59).due(0, "group", 0);
        run.due(0, "clash", 2, 0, 0).due(1, "clash", 2, 0, 1).due(0, "clash", 2, 58, 0).due(59, "clash", 2, 58, 1);
        run.due(1, "clash", 2, 59, 0).due(2, "clash", 2, 59, 1).due(58, "clash", 2, 1769, 0).due(59, "clash", 2, 1769, 1);
        run.due(NONE, "clash", 2, 1770, 0).due(NONE, "clash", 2, 1770, 1).due(NONE, "clash", 2, GREATEST, 0);
        run.due(NONE, "clash", 1, 0, 0).due(NONE, "clash", 1, 0, 1);
        // 60 parts of 8 kinds: four kinds have 8 parts, four have 7; 1770 - 4 * 28 - 4 * 21 are of two kinds.
        for (int kind = 0; kind < 8; kind++) {
            run.due(false, "free", kind, kind, 1);
        }
        run.due(1574, "clashes", 2).due(1, "groups").due(10, "shift", 0, 2, 1000).due(NO, "shift", 0, 2, 9);
    }

    private static void softPairsByTheirParts() {
        Run run = new Run().cube(0, 40, 0, 0).cube(0, 20, 0, 0).cube(0, 0, 0, 0).cube(0, 5, 5, 0);
        run.with("margin", 1, 11).due(3, "clashes", 1).due(1, "clashes", 2);
        run.due(0, "clash", 1, 0, 0).due(1, "clash", 1, 0, 1).due(1, "clash", 1, 1, 0).due(2, "clash", 1, 1, 1);
        run.due(1, "clash", 1, 2, 0).due(3, "clash", 1, 2, 1).due(NONE, "clash", 1, 3, 0).due(NONE, "clash", 1, 3, 1);
        run.due(2, "clash", 2, 0, 0).due(3, "clash", 2, 0, 1).due(NONE, "clash", 2, 1, 1);
    }

    private static void groupsOfMoreThanOne() {
        new Run().cube(0, 0, 0, 0).due(0, "groups").due(0, "group", 0).cube(0, 10, 0, 0).due(0, "groups")
            .due(1, "group", 1).with("margin", 0, 50).due(0, "groups").due(true, "move", 1, 0, -1)
            .due(1, "groups").due(0, "group", 1).due(true, "move", 1, 0, 1).due(0, "groups").due(1, "group", 1);
        Run twos = new Run();
        for (int i = 0; i < 60; i++) {
            twos.cube(0, i % 30 * 30, 0, 0);
        }
        twos.due(30, "groups").due(29, "group", 59).due(0, "group", 30).due(29, "group", 29).due(30, "clashes", 2);
        twos.due(59, "drop", 0).due(29, "groups").due(30, "group", 30);
    }

    private static void aWayOfHardPairs() {
        // Each part meets only its neighbours; the numbers go from both ends to the middle.
        Run run = new Run();
        for (int i = 0; i < 60; i++) {
            int place = i % 2 == 0 ? i / 2 : 59 - i / 2;
            run.cube(0, place * 9, 0, 0);
        }
        run.due(1, "groups").due(59, "clashes", 2);
        for (int i = 0; i < 60; i++) {
            run.due(0, "group", i);
        }
        // Without 0 the least is 1; without 58, in the middle, there are two ways.
        run.due(59, "drop", 0).due(1, "group", 2).due(1, "group", 59).due(58, "drop", 58).due(2, "groups");
        run.due(2, "group", 2).due(2, "group", 56).due(1, "group", 59).due(1, "group", 1).due(ARGUMENT, "group", 58);
    }

    private static void hullsInCommon() {
        for (int axis = 0; axis < 3; axis++) {
            int[] at = changed(new int[] {500, 500, 500}, axis, 509);
            new Run().cube(0, 500, 500, 500).cube(0, at[0], at[1], at[2]).due(100, "common", 0, 1).due(100, "common", 1, 0);
            at[axis] = 510;
            new Run().cube(0, 500, 500, 500).cube(0, at[0], at[1], at[2]).due(0, "common", 0, 1).due(0, "common", 1, 0);
            at[axis] = 511;
            new Run().cube(0, 500, 500, 500).cube(0, at[0], at[1], at[2]).due(0, "common", 0, 1).due(0, "common", 1, 0);
            // Apart along two axes: two gaps make no volume.
            int[] twice = changed(new int[] {600, 600, 600}, axis, 500);
            new Run().cube(0, 500, 500, 500).cube(0, twice[0], twice[1], twice[2]).due(0, "common", 0, 1);
        }
        new Run().cube(0, 500, 500, 500).cube(0, 600, 600, 600).due(0, "common", 0, 1);
        new Run().box(0, 0, 0, 0, 1000, 1000, 1000).box(0, 0, 0, 0, 1000, 1000, 1000).due(1000000000, "common", 0, 1);
        new Run().box(0, 0, 0, 0, 1000, 1000, 1000).box(0, 999, 999, 999, 1, 1, 1).due(1, "common", 0, 1);
        // Numbers below 0 and above 1000 come in the hulls of tubes.
        new Run().tube(0, 0, 0, 1000, 0, 1000, 200).tube(0, 0, 0, 1000, 0, 1000, 200).due(160000000, "common", 0, 1);
        new Run().tube(0, 0, 0, 10, 0, 0, 200).tube(0, 1, 0, 10, 0, 0, 200).due(10 * 10 * 400, "common", 0, 1);
        // Neither margins nor free kinds count, and hulls that meet have something in common though their parts do not meet.
        new Run().cube(0, 0, 0, 0).cube(0, 10, 0, 0).with("margin", 0, 50).due(0, "common", 0, 1);
        new Run().cube(0, 0, 0, 0).cube(1, 9, 0, 0).with("free", 0, 1, 1).due(100, "common", 0, 1);
        boxAndTube(2, 505, 514, 514, 5).duePair(0).due(5, "common", 0, 1);
        twoTubes(2, 519, 514, 514, 5).duePair(0).due(1, "common", 0, 1);
    }

    private static void hullsThatABoxMeets() {
        for (int axis = 0; axis < 3; axis++) {
            int[] all = {0, 0, 0, 1000, 1000, 1000, 0};
            Run run = new Run().cube(0, 500, 500, 500);
            run.due(NONE, "inside", changed(all, 3 + axis, 500)).due(0, "inside", changed(all, 3 + axis, 501));
            run.due(NONE, "inside", changed(all, axis, 510)).due(0, "inside", changed(all, axis, 509));
            // Of the tube's hull across its axis only 1 is in the space below 0.
            int across = axis == 0 ? 1 : 0;
            Run tube = new Run().tube(0, axis, 0, 1000, 0, 0, 1);
            tube.due(0, "inside", inBox(across, -1, 0)).due(NONE, "inside", inBox(across, -2, -1));
            tube.due(0, "inside", inBox(across, 0, 1)).due(NONE, "inside", inBox(across, 1, 2));
            Run far = new Run().tube(0, axis, 0, 1000, 1000, 1000, 200);
            far.due(0, "inside", inBox(across, 1199, 1200)).due(NONE, "inside", inBox(across, 1200, 1201));
        }
        // Each axis has its own numbers.
        Run apart = new Run().cube(0, 100, 400, 700);
        apart.due(0, "inside", 100, 400, 700, 110, 410, 710, 0).due(NONE, "inside", 100, 700, 400, 110, 710, 410, 0);
        apart.due(NONE, "inside", 400, 100, 700, 410, 110, 710, 0).due(NONE, "inside", 700, 400, 100, 710, 410, 110, 0);
        // In the hull's corner, where the round tube is not.
        new Run().tube(0, 2, 0, 10, 100, 100, 100).due(0, "inside", 0, 0, 0, 1, 1, 1, 0);
        // Margins and free kinds do not count.
        new Run().cube(0, 10, 10, 10).with("margin", 0, 50).with("free", 0, 0, 1)
            .due(NONE, "inside", 0, 0, 0, 10, 10, 10, 0).due(0, "inside", 0, 0, 0, 11, 11, 11, 0);
    }

    /** A box as wide as can be, but along one axis from a number to another. */
    private static int[] inBox(int axis, int from, int to) {
        int[] n = {-2000, -2000, -2000, 2000, 2000, 2000, 0};
        return changed(changed(n, axis, from), 3 + axis, to);
    }

    private static void theKthPart() {
        Run run = new Run().cube(0, 0, 0, 0).cube(0, 100, 0, 0).cube(0, 0, 0, 0).tube(0, 0, 0, 1000, 5, 5, 1);
        run.due(0, "inside", 0, 0, 0, 10, 10, 10, 0).due(2, "inside", 0, 0, 0, 10, 10, 10, 1);
        run.due(3, "inside", 0, 0, 0, 10, 10, 10, 2).due(NONE, "inside", 0, 0, 0, 10, 10, 10, 3);
        run.due(NONE, "inside", 0, 0, 0, 10, 10, 10, GREATEST).due(ARGUMENT, "inside", 0, 0, 0, 10, 10, 10, -1);
        Run full = full();
        full.due(59, "inside", -2000, -2000, -2000, 2000, 2000, 2000, 59);
        full.due(NONE, "inside", -2000, -2000, -2000, 2000, 2000, 2000, 60);
    }

    private static void shiftBy0IfItHasNone() {
        for (int axis = 0; axis < 3; axis++) {
            new Run().cube(0, 0, 0, 0).due(0, "shift", 0, axis, 0).due(0, "shift", 0, axis, 1000);
            new Run().box(0, 0, 0, 0, 1000, 1000, 1000).due(0, "shift", 0, axis, 0).due(0, "shift", 0, axis, 1000);
            new Run().tube(0, axis, 0, 1000, 1000, 0, 200).due(0, "shift", 0, axis, 0);
        }
        // A touch, a soft pair, a free one are no hard ones.
        new Run().cube(0, 0, 0, 0).cube(0, 10, 0, 0).with("margin", 0, 50).with("margin", 1, 50).due(0, "shift", 0, 0, 0);
        new Run().cube(0, 0, 0, 0).cube(1, 0, 0, 0).with("free", 0, 1, 1).due(0, "shift", 0, 0, 0);
        new Run().cube(0, 0, 0, 0).cube(0, 0, 0, 0).with("free", 0, 0, 1).due(0, "shift", 0, 0, 1000);
        // The hard pairs of other parts are none of it.
        new Run().cube(0, 0, 0, 0).cube(0, 100, 0, 0).cube(0, 100, 0, 0).due(0, "shift", 0, 0, 0);
    }

    private static void ofTwoAsShortTheGreater() {
        for (int axis = 0; axis < 3; axis++) {
            new Run().cube(0, 500, 500, 500).cube(0, 500, 500, 500).due(10, "shift", 0, axis, 1000)
                .due(10, "shift", 0, axis, 10).due(NO, "shift", 0, axis, 9).due(10, "shift", 1, axis, 1000);
            int[] lower = changed(new int[] {500, 500, 500}, axis, 499);
            new Run().cube(0, lower[0], lower[1], lower[2]).cube(0, 500, 500, 500).due(-9, "shift", 0, axis, 1000)
                .due(-9, "shift", 0, axis, 9).due(NO, "shift", 0, axis, 8).due(9, "shift", 1, axis, 1000)
                .due(9, "shift", 1, axis, 9).due(NO, "shift", 1, axis, 8);
            // Tubes of one axis with one centre: as far up as down.
            twoTubes(axis, 500, 500, 500, 5).due(15, "shift", 1, axis == 0 ? 1 : 0, 1000).due(20, "shift", 1, axis, 1000);
        }
    }

    private static void shiftDoesNotLeaveTheSpace() {
        for (int axis = 0; axis < 3; axis++) {
            int[] wide = {0, 0, 0, 0, 10, 10, 10};
            // Up is longer, but down would leave.
            int[] blocked = changed(wide, 4 + axis, 990);
            new Run().cube(0, 0, 0, 0).with("box", blocked).due(990, "shift", 0, axis, 1000)
                .due(990, "shift", 0, axis, 990).due(NO, "shift", 0, axis, 989);
            blocked[4 + axis] = 991;
            new Run().cube(0, 0, 0, 0).with("box", blocked).due(NO, "shift", 0, axis, 1000);
            // Down is longer, but up would leave.
            int[] high = changed(new int[] {0, 0, 0}, axis, 990);
            int[] above = changed(changed(wide, 1 + axis, 10), 4 + axis, 990);
            new Run().cube(0, high[0], high[1], high[2]).with("box", above).due(-990, "shift", 0, axis, 1000)
                .due(-990, "shift", 0, axis, 990).due(NO, "shift", 0, axis, 989);
            above = changed(changed(wide, 1 + axis, 9), 4 + axis, 991);
            new Run().cube(0, high[0], high[1], high[2]).with("box", above).due(NO, "shift", 0, axis, 1000);
        }
    }

    private static void shiftOfATubesCentre() {
        for (int axis = 0; axis < 3; axis++) {
            int across = axis == 0 ? 1 : 0;
            int[] box = changed(new int[] {0, 0, 0, 0, 10, 10, 10}, 4 + across, 999);
            // The centre may go from 0 to 1000, by as much as a shift can be.
            new Run().tube(0, axis, 0, 10, 0, 0, 1).with("box", box).due(1000, "shift", 0, across, 1000)
                .due(NO, "shift", 0, across, 999).due(true, "move", 0, across, 1000).duePair(0);
            box = changed(box, 1 + across, 1);
            new Run().tube(0, axis, 0, 10, 1000, 5, 1).with("box", box).due(-1000, "shift", 0, across, 1000)
                .due(NO, "shift", 0, across, 999).due(true, "move", 0, across, -1000).duePair(0);
            box = changed(changed(box, 1 + across, 0), 4 + across, 1000);
            new Run().tube(0, axis, 0, 10, 0, 5, 1).with("box", box).due(NO, "shift", 0, across, 1000);
            new Run().tube(0, axis, 0, 10, 1000, 5, 1).with("box", box).due(NO, "shift", 0, across, 1000);
            // Half of the tube would be out of the space: as for move() only its centre counts.
            box = changed(changed(box, 1 + across, 10), 4 + across, 490);
            new Run().tube(0, axis, 0, 10, 10, 5, 10).with("box", box).due(-10, "shift", 0, across, 1000);
            new Run().tube(0, axis, 0, 10, 10, 5, 11).with("box", box).due(501, "shift", 0, across, 1000);
        }
    }

    private static void noSuchMoveOfMostOrLess() {
        new Run().cube(0, 500, 500, 500).cube(0, 500, 500, 500).due(NO, "shift", 0, 0, 0).due(NO, "shift", 0, 0, 9);
        // Up is short enough, down not: and the other way round.
        new Run().cube(0, 504, 0, 0).cube(0, 500, 0, 0).due(6, "shift", 0, 0, 6).due(NO, "shift", 0, 0, 5);
        new Run().cube(0, 496, 0, 0).cube(0, 500, 0, 0).due(-6, "shift", 0, 0, 6).due(NO, "shift", 0, 0, 5);
        // The shorter way leaves the space, the longer one is too long.
        new Run().cube(0, 0, 0, 0).cube(0, 5, 0, 0).due(NO, "shift", 0, 0, 14).due(15, "shift", 0, 0, 15);
        new Run().cube(0, 990, 0, 0).cube(0, 985, 0, 0).due(NO, "shift", 0, 0, 14).due(-15, "shift", 0, 0, 15);
    }

    private static void shiftIntoAGap() {
        // A gap just as wide as the part is wide enough; one less is not.
        new Run().cube(0, 100, 0, 0).cube(0, 95, 0, 0).cube(0, 115, 0, 0).due(5, "shift", 0, 0, 1000);
        new Run().cube(0, 100, 0, 0).cube(0, 95, 0, 0).cube(0, 114, 0, 0).due(-15, "shift", 0, 0, 1000);
        new Run().cube(0, 100, 0, 0).cube(0, 105, 0, 0).cube(0, 85, 0, 0).due(-5, "shift", 0, 0, 1000);
        new Run().cube(0, 100, 0, 0).cube(0, 105, 0, 0).cube(0, 86, 0, 0).due(15, "shift", 0, 0, 1000);
        // Past many that touch one another, and into the gap behind them.
        Run run = new Run().cube(0, 0, 0, 0);
        for (int i = 0; i < 59; i++) {
            run.cube(1, i * 10, 0, 0);
        }
        run.due(590, "shift", 0, 0, 1000).due(590, "shift", 0, 0, 590).due(NO, "shift", 0, 0, 589).due(10, "shift", 0, 1, 1000);
        run.due(59, "drop", 30).due(290, "shift", 0, 0, 1000);
        run.due(true, "move", 0, 0, 290).due(0, "shift", 0, 0, 0).due(0, "hull", 1, 0, 0);
        // A gap between tubes of one axis: round, so nearer than their hulls.
        new Run().tube(0, 2, 0, 10, 500, 500, 5).tube(0, 2, 0, 10, 503, 504, 5).due(-7, "shift", 0, 0, 1000)
            .due(-6, "shift", 0, 1, 1000).due(10, "shift", 0, 2, 1000);
    }

    /** Two cubes in one place, of which 0 is to go along an axis, and a third part that may be in its way upwards. */
    private static Run inTheWay() {
        return new Run().cube(0, 500, 500, 500).cube(0, 500, 500, 500);
    }

    private static void aTouchDoesNotBlockAShift() {
        for (int axis = 0; axis < 3; axis++) {
            for (int side = 0; side < 3; side++) {
                if (side != axis) {
                    boxBesideTheWay(axis, side);
                    tubeAcrossTheWay(axis, side);
                }
            }
            inTheWay().tube(0, axis, 512, 10, 513, 514, 5).due(10, "shift", 0, axis, 1000);
            inTheWay().tube(0, axis, 512, 10, 513, 514, 6).due(-10, "shift", 0, axis, 1000);
        }
    }

    private static void boxBesideTheWay(int axis, int side) {
        int[] box = changed(new int[] {0, 500, 500, 500, 10, 10, 10}, 1 + axis, 510);
        int[] steps = {-10, -9, 9, 10};
        for (int step : steps) {
            int want = Math.abs(step) < 10 ? -10 : 10;
            inTheWay().with("box", changed(box, 1 + side, 500 + step)).due(want, "shift", 0, axis, 1000);
        }
    }

    /** A tube along side, so the third axis is the other one across it. */
    private static void tubeAcrossTheWay(int axis, int side) {
        boolean wayIsLesser = axis < 3 - axis - side;
        int u = wayIsLesser ? 512 : 505;
        int v = wayIsLesser ? 505 : 512;
        int[][] ends = {{480, 10}, {481, -10}, {509, -10}, {510, 10}};
        for (int[] end : ends) {
            inTheWay().tube(0, side, end[0], 20, u, v, 5).due(end[1], "shift", 0, axis, 1000);
        }
        // Its round side: with a gap of 4 along the third axis a radius of 5 is passed at 3.
        int[] centre = wayIsLesser ? new int[] {504, 514} : new int[] {514, 504};
        Run round = new Run().cube(0, 500, 500, 500).tube(0, side, 500, 20, centre[0], centre[1], 5);
        round.due(7, "shift", 0, axis, 1000).due(7, "shift", 0, axis, 7).due(NO, "shift", 0, axis, 6);
        round.due(-7, "shift", 1, axis, 1000).due(true, "move", 0, axis, 6).duePair(HARD);
        round.due(true, "move", 0, axis, 1).duePair(0).due(0, "shift", 0, axis, 0).due(0, "shift", 1, axis, 0);
        // With a gap as wide as the radius there is nothing to pass.
        round.due(true, "move", 1, 3 - axis - side, 1).due(true, "move", 0, axis, -7).due(0, "shift", 0, axis, 0);
    }

    private static void shiftChangesNothing() {
        Run run = scene();
        int[] there = {0, 1, 2, 4, 5};
        for (int part : there) {
            for (int axis = 0; axis < 3; axis++) {
                run.with("shift", part, axis, 1000).with("shift", part, axis, 0);
            }
        }
        report("all else behind the shifts", allOf(run), allOf(scene()));
        Run asked = scene().with("groups").with("group", 5).with("clashes", 1).with("clash", 2, 1, 1).with("pair", 0, 2);
        asked.with("common", 0, 1).with("inside", 0, 0, 0, 500, 500, 500, 2).with("hull", 2, 1, 1).with("parts");
        report("all else behind questions", allOf(asked), allOf(scene()));
    }

    private static void theLeastBox() {
        new Run().box(0, 1, 2, 3, 10, 20, 30).dueHull(0, 1, 11, 2, 22, 3, 33);
        new Run().box(0, 0, 0, 0, 1000, 1000, 1000).dueHull(0, 0, 1000, 0, 1000, 0, 1000);
        new Run().box(0, 999, 999, 999, 1, 1, 1).dueHull(0, 999, 1000, 999, 1000, 999, 1000);
        // The centre's numbers are those of the other two axes, in the order of these.
        new Run().tube(0, 0, 1, 10, 200, 300, 5).dueHull(0, 1, 11, 195, 205, 295, 305);
        new Run().tube(0, 1, 1, 10, 200, 300, 5).dueHull(0, 195, 205, 1, 11, 295, 305);
        new Run().tube(0, 2, 1, 10, 200, 300, 5).dueHull(0, 195, 205, 295, 305, 1, 11);
        new Run().tube(0, 2, 0, 1000, 0, 1000, 200).dueHull(0, -200, 200, 800, 1200, 0, 1000);
        new Run().tube(0, 0, 999, 1, 1000, 0, 1).dueHull(0, 999, 1000, 999, 1001, -1, 1);
        // A margin does not count.
        new Run().cube(0, 500, 500, 500).with("margin", 0, 50).dueHull(0, 500, 510, 500, 510, 500, 510);
    }

    private static void howManyThereAre() {
        Run run = full();
        for (int i = 59; i >= 0; i--) {
            run.due(i, "drop", i).due(i, "parts").due(ARGUMENT, "drop", i).due(i, "parts");
        }
        new Run().due(0, "parts").cube(0, 0, 0, 0).due(1, "parts").due(ARGUMENT, "box", 8, 0, 0, 0, 1, 1, 1)
            .due(1, "parts").due(true, "move", 0, 0, 1).due(1, "parts").due(0, "drop", 0).due(0, "parts");
    }

    private static void twoObjectsAreTwo() {
        Run first = new Run().cube(0, 0, 0, 0).cube(0, 5, 0, 0).with("free", 1, 1, 1).with("margin", 0, 9);
        Run second = new Run().due(0, "parts").cube(0, 500, 0, 0).due(0, "margin", 0, 1).due(false, "free", 1, 1, 0);
        first.due(2, "parts").due(9, "margin", 0, 0).due(true, "free", 1, 1, 1).due(1, "clashes", 2);
        second.due(1, "parts").due(0, "clashes", 2).due(500, "hull", 0, 0, 0);
    }

    private static void upToTheLastCall() {
        Run run = new Run().cube(0, 0, 0, 0).cube(0, 0, 0, 0);
        for (int i = 0; i < 254; i++) {
            run.due(true, "move", 0, 0, i % 2 == 0 ? 10 : -10).due(i % 2 == 0 ? 0 : HARD, "pair", 0, 1);
        }
        run.due(2, "parts").due(1, "clashes", 2);
    }

    private static void test(String what, Runnable tests) {
        sentence = what;
        tests.run();
    }

    private static void terms() {
        test("a number is out of its bounds (box)", ClashBoxesEdges::boundsOfBox);
        test("a number is out of its bounds (tube)", ClashBoxesEdges::boundsOfTube);
        test("out of its bounds, or no such part any more (changes)", ClashBoxesEdges::boundsOfChanges);
        test("out of its bounds, or no such part any more (clashes)", ClashBoxesEdges::boundsOfClashes);
        test("out of its bounds, or no such part any more (looking)", ClashBoxesEdges::boundsOfLooking);
        test("also if they are one", ClashBoxesEdges::alsoIfTheyAreOne);
        test("there were 60 parts", ClashBoxesEdges::thereWere60Parts);
        test("there WERE 60 parts", ClashBoxesEdges::droppedPartsWereThereToo);
        test("of several exceptions the one named first", ClashBoxesEdges::theOneNamedFirst);
        test("boxes overlap along each axis by more than 0", ClashBoxesEdges::boxesOverlapByMoreThan0);
        test("a box and a tube overlap so along the tube's axis", ClashBoxesEdges::boxAndTubeAlongTheAxis);
        test("less than the square of its radius", ClashBoxesEdges::theSquareIsLessThanThatOfTheRadius);
        test("0 if it is in that", ClashBoxesEdges::distance0IfTheCentreIsInTheRectangle);
        test("less than the square of the sum of their radii", ClashBoxesEdges::tubesOfOneAxis);
        test("tubes of two axes: if their hulls meet", ClashBoxesEdges::tubesOfTwoAxes);
        test("grown by m a box is greater on each side", ClashBoxesEdges::grownOnEachSide);
        test("grown, a tube by m at both ends, and in its radius", ClashBoxesEdges::aTubeGrowsAtItsEndsAndInItsRadius);
        test("the first one by its margin, or the second one by its own", ClashBoxesEdges::eachByItsOwnMargin);
        test("pairs of free kinds are NONE, too", ClashBoxesEdges::freeKindsAreNone);
    }

    private static void promises() {
        test("1: no parts, no free kinds", ClashBoxesEdges::aNewObject);
        test("1: a new object, beside others", ClashBoxesEdges::twoObjectsAreTwo);
        test("1: at most 512 calls", ClashBoxesEdges::upToTheLastCall);
        test("4: what it was", ClashBoxesEdges::marginWhatItWas);
        test("5: two kinds, or one with itself; whether they were", ClashBoxesEdges::freeIsOfTwoKindsEachWay);
        test("6: false, changing nothing", ClashBoxesEdges::moveWouldLeave);
        test("6: of a tube from end to end, across it the centre", ClashBoxesEdges::moveOfATube);
        test("6: a part is moved along an axis", ClashBoxesEdges::aMoveMovesOneAlone);
        test("7: its number does not come again", ClashBoxesEdges::aNumberDoesNotComeAgain);
        test("7: a part goes", ClashBoxesEdges::droppedPartsAreNoLongerSeen);
        test("9, 10: all pairs of 60 parts", ClashBoxesEdges::allPairs);
        test("10: by its lesser part, then its greater one", ClashBoxesEdges::softPairsByTheirParts);
        test("11: groups with more than one part", ClashBoxesEdges::groupsOfMoreThanOne);
        test("12: a way of hard pairs; the least part", ClashBoxesEdges::aWayOfHardPairs);
        test("13: 0 if they do not meet", ClashBoxesEdges::hullsInCommon);
        test("14: whose hull meets a box", ClashBoxesEdges::hullsThatABoxMeets);
        test("14: the k-th part; NONE", ClashBoxesEdges::theKthPart);
        test("15: by 0 if it has none", ClashBoxesEdges::shiftBy0IfItHasNone);
        test("15: of two as short the one to greater numbers", ClashBoxesEdges::ofTwoAsShortTheGreater);
        test("15: does not leave 0 .. 1000", ClashBoxesEdges::shiftDoesNotLeaveTheSpace);
        test("15: does not leave, as for move()", ClashBoxesEdges::shiftOfATubesCentre);
        test("15: NO if no such move of most or less does", ClashBoxesEdges::noSuchMoveOfMostOrLess);
        test("15: at least, so that it has no hard pair", ClashBoxesEdges::shiftIntoAGap);
        test("15: so that it has no hard pair, on its way", ClashBoxesEdges::aTouchDoesNotBlockAShift);
        test("15: must be moved, and is not", ClashBoxesEdges::shiftChangesNothing);
        test("16: the least box that it is in", ClashBoxesEdges::theLeastBox);
        test("17: how many parts there are", ClashBoxesEdges::howManyThereAre);
    }

    public static void main(String[] args) {
        terms();
        promises();
        System.out.println(wrong == 0 ? "all answers are as due" : wrong + " answers are not as due");
        if (wrong != 0) {
            System.exit(1);
        }
    }
}
