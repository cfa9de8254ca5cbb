import java.util.ArrayDeque;
import java.util.ArrayList;
import java.util.Deque;
import java.util.List;
import java.util.Random;
import java.util.TreeSet;

/** Long runs of calls, each answer compared with that of a slow model which follows the document's words. */
public final class ClashBoxesModel {
    private static final int RUNS = 400;
    private static final int CALLS = 512;

    private static int wrong = 0;

    /** What the document tells of a part, as it tells it. */
    private static final class Shape {
        boolean tube;
        int kind;
        int margin;
        int[] from = new int[3];
        int[] to = new int[3];
        int axis;
        int start;
        int end;
        int[] centre = new int[3];
        int radius;

        Shape moved(int along, int by) {
            Shape s = copy();
            if (!tube) {
                s.from[along] += by;
                s.to[along] += by;
            } else if (along == axis) {
                s.start += by;
                s.end += by;
            } else {
                s.centre[along] += by;
            }
            return s;
        }

        Shape grown(int m) {
            Shape s = copy();
            for (int a = 0; a < 3; a++) {
                s.from[a] -= m;
                s.to[a] += m;
            }
            s.start -= m;
            s.end += m;
            s.radius += m;
            return s;
        }

        Shape copy() {
            Shape s = new Shape();
            s.tube = tube;
            s.kind = kind;
            s.margin = margin;
            s.from = from.clone();
            s.to = to.clone();
            s.axis = axis;
            s.start = start;
            s.end = end;
            s.centre = centre.clone();
            s.radius = radius;
            return s;
        }

        boolean isInSpace() {
            for (int a = 0; a < 3; a++) {
                int low = !tube ? from[a] : a == axis ? start : centre[a];
                int high = !tube ? to[a] : a == axis ? end : centre[a];
                if (low < 0 || high > 1000) {
                    return false;
                }
            }
            return true;
        }

        Shape hull() {
            if (!tube) {
                return copy();
            }
            Shape s = new Shape();
            for (int a = 0; a < 3; a++) {
                s.from[a] = a == axis ? start : centre[a] - radius;
                s.to[a] = a == axis ? end : centre[a] + radius;
            }
            return s;
        }
    }

    private static boolean overlap(int from, int to, int otherFrom, int otherTo) {
        return Math.min(to, otherTo) - Math.max(from, otherFrom) > 0;
    }

    private static boolean boxesMeet(Shape p, Shape q) {
        boolean all = true;
        for (int a = 0; a < 3; a++) {
            all &= overlap(p.from[a], p.to[a], q.from[a], q.to[a]);
        }
        return all;
    }

    private static boolean boxMeetsTube(Shape box, Shape tube) {
        int square = 0;
        for (int a = 0; a < 3; a++) {
            if (a != tube.axis) {
                int nearest = Math.min(Math.max(tube.centre[a], box.from[a]), box.to[a]);
                square += (tube.centre[a] - nearest) * (tube.centre[a] - nearest);
            }
        }
        return overlap(box.from[tube.axis], box.to[tube.axis], tube.start, tube.end)
            && square < tube.radius * tube.radius;
    }

    private static boolean tubesMeet(Shape p, Shape q) {
        if (p.axis != q.axis) {
            return boxesMeet(p.hull(), q.hull());
        }
        int square = 0;
        for (int a = 0; a < 3; a++) {
            if (a != p.axis) {
                square += (p.centre[a] - q.centre[a]) * (p.centre[a] - q.centre[a]);
            }
        }
        int sum = p.radius + q.radius;
        return overlap(p.start, p.end, q.start, q.end) && square < sum * sum;
    }

    private static boolean meet(Shape p, Shape q) {
        if (p.tube && q.tube) {
            return tubesMeet(p, q);
        }
        if (p.tube) {
            return boxMeetsTube(q, p);
        }
        return q.tube ? boxMeetsTube(p, q) : boxesMeet(p, q);
    }

    /** The model: throws what is due by name, as a text. */
    private static final class Model {
        final List<Shape> shapes = new ArrayList<>();
        final boolean[][] free = new boolean[8][8];

        Shape at(int part) {
            if (part < 0 || part >= shapes.size() || shapes.get(part) == null) {
                throw new IllegalArgumentException();
            }
            return shapes.get(part);
        }

        static void need(boolean holds) {
            if (!holds) {
                throw new IllegalArgumentException();
            }
        }

        static boolean in(int n, int least, int greatest) {
            return least <= n && n <= greatest;
        }

        int add(Shape s) {
            if (shapes.size() == 60) {
                throw new IllegalStateException();
            }
            shapes.add(s);
            return shapes.size() - 1;
        }

        Object box(int[] n) {
            Shape s = new Shape();
            need(in(n[0], 0, 7));
            s.kind = n[0];
            for (int a = 0; a < 3; a++) {
                need(in(n[1 + a], 0, 1000) && in(n[4 + a], 1, 1000) && n[1 + a] + n[4 + a] <= 1000);
                s.from[a] = n[1 + a];
                s.to[a] = n[1 + a] + n[4 + a];
            }
            return add(s);
        }

        Object tube(int[] n) {
            Shape s = new Shape();
            need(in(n[0], 0, 7) && in(n[1], 0, 2) && in(n[2], 0, 1000) && in(n[3], 1, 1000) && n[2] + n[3] <= 1000);
            need(in(n[4], 0, 1000) && in(n[5], 0, 1000) && in(n[6], 1, 200));
            s.tube = true;
            s.kind = n[0];
            s.axis = n[1];
            s.start = n[2];
            s.end = n[2] + n[3];
            int[][] across = {{1, 2}, {0, 2}, {0, 1}};
            s.centre[across[n[1]][0]] = n[4];
            s.centre[across[n[1]][1]] = n[5];
            s.radius = n[6];
            return add(s);
        }

        Object margin(int[] n) {
            Shape s = at(n[0]);
            need(in(n[1], 0, 50));
            int was = s.margin;
            s.margin = n[1];
            return was;
        }

        Object free(int[] n) {
            need(in(n[0], 0, 7) && in(n[1], 0, 7));
            boolean was = free[n[0]][n[1]];
            free[n[0]][n[1]] = n[2] % 2 != 0;
            free[n[1]][n[0]] = n[2] % 2 != 0;
            return was;
        }

        Object move(int[] n) {
            Shape s = at(n[0]);
            need(in(n[1], 0, 2) && in(n[2], -1000, 1000));
            Shape moved = s.moved(n[1], n[2]);
            if (moved.isInSpace()) {
                shapes.set(n[0], moved);
            }
            return moved.isInSpace();
        }

        Object drop(int[] n) {
            at(n[0]);
            shapes.set(n[0], null);
            return parts();
        }

        int pairOf(Shape p, Shape q) {
            if (free[p.kind][q.kind]) {
                return 0;
            }
            if (meet(p, q)) {
                return 2;
            }
            return meet(p.grown(p.margin), q) || meet(p, q.grown(q.margin)) ? 1 : 0;
        }

        Object pair(int[] n) {
            need(at(n[0]) != at(n[1]));
            return pairOf(at(n[0]), at(n[1]));
        }

        List<int[]> all(int state) {
            need(state == 1 || state == 2);
            List<int[]> found = new ArrayList<>();
            for (int i = 0; i < shapes.size(); i++) {
                for (int j = i + 1; j < shapes.size(); j++) {
                    Shape p = shapes.get(i);
                    Shape q = shapes.get(j);
                    if (p != null && q != null && pairOf(p, q) == state) {
                        found.add(new int[] {i, j});
                    }
                }
            }
            return found;
        }

        Object clash(int[] n) {
            List<int[]> found = all(n[0]);
            need(n[1] >= 0 && in(n[2], 0, 1));
            return n[1] < found.size() ? found.get(n[1])[n[2]] : -1;
        }

        TreeSet<Integer> groupOf(int part) {
            TreeSet<Integer> reached = new TreeSet<>();
            Deque<Integer> open = new ArrayDeque<>();
            reached.add(part);
            open.add(part);
            while (!open.isEmpty()) {
                Shape p = shapes.get(open.remove());
                for (int i = 0; i < shapes.size(); i++) {
                    Shape q = shapes.get(i);
                    if (q != null && q != p && pairOf(p, q) == 2 && reached.add(i)) {
                        open.add(i);
                    }
                }
            }
            return reached;
        }

        Object groups() {
            int count = 0;
            for (int i = 0; i < shapes.size(); i++) {
                if (shapes.get(i) != null) {
                    TreeSet<Integer> group = groupOf(i);
                    count += group.size() > 1 && group.first() == i ? 1 : 0;
                }
            }
            return count;
        }

        Object group(int[] n) {
            at(n[0]);
            return groupOf(n[0]).first();
        }

        Object common(int[] n) {
            need(at(n[0]) != at(n[1]));
            Shape p = at(n[0]).hull();
            Shape q = at(n[1]).hull();
            if (!boxesMeet(p, q)) {
                return 0L;
            }
            long volume = 1;
            for (int a = 0; a < 3; a++) {
                volume *= Math.min(p.to[a], q.to[a]) - Math.max(p.from[a], q.from[a]);
            }
            return volume;
        }

        Object inside(int[] n) {
            Shape box = new Shape();
            for (int a = 0; a < 3; a++) {
                need(in(n[a], -2000, 2000) && in(n[3 + a], -2000, 2000) && n[a] < n[3 + a]);
                box.from[a] = n[a];
                box.to[a] = n[3 + a];
            }
            need(n[6] >= 0);
            List<Integer> found = new ArrayList<>();
            for (int i = 0; i < shapes.size(); i++) {
                if (shapes.get(i) != null && boxesMeet(shapes.get(i).hull(), box)) {
                    found.add(i);
                }
            }
            return n[6] < found.size() ? found.get(n[6]) : -1;
        }

        boolean hasHard(Shape moved, Shape self) {
            for (Shape q : shapes) {
                if (q != null && q != self && pairOf(moved, q) == 2) {
                    return true;
                }
            }
            return false;
        }

        Object shift(int[] n) {
            Shape s = at(n[0]);
            need(in(n[1], 0, 2) && in(n[2], 0, 1000));
            for (int by = 0; by <= n[2]; by++) {
                for (int sign = 1; sign >= -1; sign -= 2) {
                    Shape moved = s.moved(n[1], sign * by);
                    if (moved.isInSpace() && !hasHard(moved, s)) {
                        return sign * by;
                    }
                }
            }
            return -10000;
        }

        Object hull(int[] n) {
            Shape h = at(n[0]).hull();
            need(in(n[1], 0, 2) && in(n[2], 0, 1));
            return n[2] == 0 ? h.from[n[1]] : h.to[n[1]];
        }

        int parts() {
            int count = 0;
            for (Shape s : shapes) {
                count += s != null ? 1 : 0;
            }
            return count;
        }

        Object answer(int call, int[] n) {
            switch (call) {
                case 0: return box(n);
                case 1: return tube(n);
                case 2: return margin(n);
                case 3: return free(n);
                case 4: return move(n);
                case 5: return drop(n);
                case 6: return pair(n);
                case 7: return all(n[0]).size();
                case 8: return clash(n);
                case 9: return groups();
                case 10: return group(n);
                case 11: return common(n);
                case 12: return inside(n);
                case 13: return shift(n);
                case 14: return hull(n);
                default: return parts();
            }
        }
    }

    private static Object answer(ClashBoxes c, int call, int[] n) {
        switch (call) {
            case 0: return c.box(n[0], n[1], n[2], n[3], n[4], n[5], n[6]);
            case 1: return c.tube(n[0], n[1], n[2], n[3], n[4], n[5], n[6]);
            case 2: return c.margin(n[0], n[1]);
            case 3: return c.free(n[0], n[1], n[2] % 2 != 0);
            case 4: return c.move(n[0], n[1], n[2]);
            case 5: return c.drop(n[0]);
            case 6: return c.pair(n[0], n[1]);
            case 7: return c.clashes(n[0]);
            case 8: return c.clash(n[0], n[1], n[2]);
            case 9: return c.groups();
            case 10: return c.group(n[0]);
            case 11: return c.common(n[0], n[1]);
            case 12: return c.inside(n[0], n[1], n[2], n[3], n[4], n[5], n[6]);
            case 13: return c.shift(n[0], n[1], n[2]);
            case 14: return c.hull(n[0], n[1], n[2]);
            default: return c.parts();
        }
    }

    /** Draws calls; a run's size says how near to one another its parts are. */
    private static final class Draw {
        private static final int[] CALL_OF = {0, 0, 0, 1, 1, 1, 2, 2, 3, 4, 4, 5, 6, 6, 6, 7, 8, 8, 9, 10, 10, 11, 11,
            12, 12, 13, 13, 13, 14, 15};
        private static final int[] FAR = {Integer.MIN_VALUE, -2001, -1001, -1, 0, 1, 60, 1000, 1001, 2001, Integer.MAX_VALUE};
        final Random random;
        final int size;
        int made = 0;

        Draw(int seed) {
            random = new Random(seed);
            size = new int[] {12, 40, 150, 1000}[seed % 4];
        }

        int between(int least, int greatest) {
            return least + random.nextInt(greatest - least + 1);
        }

        int part() {
            return between(0, made < 1 ? 0 : made - 1 + (random.nextInt(20) == 0 ? 1 : 0));
        }

        int call() {
            return CALL_OF[random.nextInt(CALL_OF.length)];
        }

        int[] numbers(int call) {
            int[] n = drawn(call);
            if (random.nextInt(25) == 0) {
                n[random.nextInt(n.length)] = FAR[random.nextInt(FAR.length)];
            }
            return n;
        }

        private int[] drawn(int call) {
            int low = size == 1000 ? 0 : random.nextInt(3) * (1000 - size) / 2;
            int longest = Math.max(2, size / 3);
            switch (call) {
                case 0:
                    return new int[] {between(0, 7), spot(low), spot(low), spot(low), between(1, longest), between(1, longest), between(1, longest)};
                case 1:
                    return new int[] {between(0, 7), between(0, 2), spot(low), between(1, longest), spot(low), spot(low), between(1, Math.min(200, longest))};
                case 2: return new int[] {part(), between(0, Math.min(50, size))};
                case 3: return new int[] {between(0, 7), between(0, 7), random.nextInt(4) == 0 ? 1 : 0};
                case 4: return new int[] {part(), between(0, 2), between(-size / 2, size / 2)};
                case 7: return new int[] {between(1, 2)};
                case 8: return new int[] {between(1, 2), between(0, 30), between(0, 1)};
                case 12: return seen(low);
                case 13: return new int[] {part(), between(0, 2), random.nextBoolean() ? 1000 : between(0, size)};
                case 14: return new int[] {part(), between(0, 2), between(0, 1)};
                default: return new int[] {part(), part()};
            }
        }

        private int spot(int low) {
            return between(low, Math.min(1000, low + size));
        }

        private int[] seen(int low) {
            int[] n = new int[7];
            for (int a = 0; a < 3; a++) {
                n[a] = spot(low) - size / 4;
                n[3 + a] = n[a] + between(1, size);
            }
            n[6] = between(0, 3);
            return n;
        }
    }

    private interface Asked {
        Object answer();
    }

    private static String textOf(Asked asked) {
        try {
            return String.valueOf(asked.answer());
        } catch (IllegalArgumentException | IllegalStateException e) {
            return "throws." + e.getClass().getSimpleName();
        }
    }

    private static void oneRun(int seed) {
        Draw draw = new Draw(seed);
        Model model = new Model();
        ClashBoxes c = new ClashBoxes();
        for (int i = 0; i < CALLS; i++) {
            draw.made = model.shapes.size();
            int call = draw.call();
            int[] n = draw.numbers(call);
            String want = textOf(() -> model.answer(call, n));
            String got = textOf(() -> answer(c, call, n));
            if (!got.equals(want)) {
                wrong++;
                System.out.println("run " + seed + ", call " + i + ": " + call + java.util.Arrays.toString(n)
                    + " answered " + got + ", due is " + want);
                return;
            }
        }
    }

    public static void main(String[] args) {
        for (int seed = 0; seed < RUNS; seed++) {
            oneRun(seed);
        }
        System.out.println(wrong == 0 ? "all answers are as due" : wrong + " runs are not as due");
        if (wrong != 0) {
            System.exit(1);
        }
    }
}
