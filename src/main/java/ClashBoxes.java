/**
 * Clashes of building and machine parts: boxes and tubes along the axes, with soft space around
 * them; which have inner points in common, which only their soft spaces, groups of those that
 * clash, what a box cuts, the shortest shift that makes one free.
 */
public final class ClashBoxes {
    /** There is none. */
    public static final int NONE = -1;
    /** No shift does. */
    public static final int NO = -10000;

    private static final int AXES = 3;
    private static final int KINDS = 8;
    private static final int MOST_PARTS = 60;
    private static final int MOST_MARGIN = 50;
    private static final int MOST_RADIUS = 200;
    private static final int SPACE = 1000;
    private static final int SIGHT = 2000;

    private static final int APART = 0;
    private static final int SOFT = 1;
    private static final int HARD = 2;

    /** By number; null from the drop of a part on, as its number does not come again. */
    private final Part[] row = new Part[MOST_PARTS];
    private final boolean[] freeKinds = new boolean[KINDS * KINDS];
    private int made = 0;
    private int left = 0;

    // Rows of single calls, kept here so that no call makes new ones.
    private final int[] names = new int[MOST_PARTS];
    private final int[] sizes = new int[MOST_PARTS];
    private final int[] blockLeast = new int[MOST_PARTS];
    private final int[] blockGreatest = new int[MOST_PARTS];

    /**
     * A box or a tube by its CORE and a radius around it: a box is its own core with radius 0, a
     * tube's core is the line in its middle. So one rule serves both for moves, hulls and distances.
     */
    private static final class Part {
        final int kind;
        /** NONE for a box. */
        final int tubeAxis;
        final int radius;
        final int[] least = new int[AXES];
        final int[] greatest = new int[AXES];
        int softSpace = 0;

        Part(int kind, int tubeAxis, int radius) {
            this.kind = kind;
            this.tubeAxis = tubeAxis;
            this.radius = radius;
        }

        void setCore(int axis, int from, int to) {
            least[axis] = from;
            greatest[axis] = to;
        }

        boolean isTube() {
            return tubeAxis != NONE;
        }

        int hullLeast(int axis) {
            return axis == tubeAxis ? least[axis] : least[axis] - radius;
        }

        int hullGreatest(int axis) {
            return axis == tubeAxis ? greatest[axis] : greatest[axis] + radius;
        }

        boolean staysInSpace(int axis, int by) {
            return least[axis] + by >= 0 && greatest[axis] + by <= SPACE;
        }
    }

    public ClashBoxes() {
    }

    public int box(int kind, int x, int y, int z, int dx, int dy, int dz)
            throws IllegalArgumentException, IllegalStateException {
        need(isKind(kind));
        need(isSpan(x, dx) && isSpan(y, dy) && isSpan(z, dz));
        needRoom();
        Part box = new Part(kind, NONE, 0);
        box.setCore(0, x, x + dx);
        box.setCore(1, y, y + dy);
        box.setCore(2, z, z + dz);
        return add(box);
    }

    public int tube(int kind, int axis, int from, int length, int u, int v, int radius)
            throws IllegalArgumentException, IllegalStateException {
        need(isKind(kind) && isAxis(axis));
        need(isSpan(from, length));
        need(isWithin(u, 0, SPACE) && isWithin(v, 0, SPACE));
        need(isWithin(radius, 1, MOST_RADIUS));
        needRoom();
        Part tube = new Part(kind, axis, radius);
        int uAxis = axis == 0 ? 1 : 0;
        int vAxis = axis == 2 ? 1 : 2;
        tube.setCore(axis, from, from + length);
        tube.setCore(uAxis, u, u);
        tube.setCore(vAxis, v, v);
        return add(tube);
    }

    public int margin(int part, int m) throws IllegalArgumentException {
        Part p = partAt(part);
        need(isWithin(m, 0, MOST_MARGIN));
        int was = p.softSpace;
        p.softSpace = m;
        return was;
    }

    public boolean free(int kind, int other, boolean on) throws IllegalArgumentException {
        need(isKind(kind) && isKind(other));
        boolean was = areFree(kind, other);
        freeKinds[kind * KINDS + other] = on;
        freeKinds[other * KINDS + kind] = on;
        return was;
    }

    public boolean move(int part, int axis, int by) throws IllegalArgumentException {
        Part p = partAt(part);
        need(isAxis(axis) && isWithin(by, -SPACE, SPACE));
        if (!p.staysInSpace(axis, by)) {
            return false;
        }
        p.setCore(axis, p.least[axis] + by, p.greatest[axis] + by);
        return true;
    }

    public int drop(int part) throws IllegalArgumentException {
        need(isThere(part));
        row[part] = null;
        left--;
        return left;
    }

    // ---- clashes

    public int pair(int part, int other) throws IllegalArgumentException {
        Part p = partAt(part);
        Part q = partAt(other);
        need(part != other);
        return stateOf(p, q);
    }

    public int clashes(int state) throws IllegalArgumentException {
        need(isWithin(state, SOFT, HARD));
        int count = 0;
        for (int lesser = 0; lesser < made; lesser++) {
            count += countPartners(state, lesser);
        }
        return count;
    }

    public int clash(int state, int k, int what) throws IllegalArgumentException {
        need(isWithin(state, SOFT, HARD) && k >= 0 && isWithin(what, 0, 1));
        int toSkip = k;
        for (int lesser = 0; lesser < made; lesser++) {
            int count = countPartners(state, lesser);
            if (toSkip < count) {
                return what == 0 ? lesser : partnerAt(state, lesser, toSkip);
            }
            toSkip -= count;
        }
        return NONE;
    }

    public int groups() {
        nameGroups();
        for (int i = 0; i < made; i++) {
            sizes[i] = 0;
        }
        int count = 0;
        for (int i = 0; i < made; i++) {
            int name = names[i];
            sizes[name]++;
            // Each group of more than one part has just one second part.
            if (sizes[name] == 2) {
                count++;
            }
        }
        return count;
    }

    public int group(int part) throws IllegalArgumentException {
        need(isThere(part));
        nameGroups();
        return names[part];
    }

    public long common(int part, int other) throws IllegalArgumentException {
        Part p = partAt(part);
        Part q = partAt(other);
        need(part != other);
        long volume = 1;
        for (int axis = 0; axis < AXES; axis++) {
            int from = Math.max(p.hullLeast(axis), q.hullLeast(axis));
            int to = Math.min(p.hullGreatest(axis), q.hullGreatest(axis));
            volume *= Math.max(0, to - from);
        }
        return volume;
    }

    // ---- looking

    public int inside(int x, int y, int z, int toX, int toY, int toZ, int k)
            throws IllegalArgumentException {
        need(isSeen(x, toX) && isSeen(y, toY) && isSeen(z, toZ) && k >= 0);
        int toSkip = k;
        for (int i = 0; i < made; i++) {
            Part p = row[i];
            if (p != null && cuts(p, 0, x, toX) && cuts(p, 1, y, toY) && cuts(p, 2, z, toZ)) {
                if (toSkip == 0) {
                    return i;
                }
                toSkip--;
            }
        }
        return NONE;
    }

    public int shift(int part, int axis, int most) throws IllegalArgumentException {
        Part p = partAt(part);
        need(isAxis(axis) && isWithin(most, 0, SPACE));
        int blocks = findBlocks(p, part, axis);
        int up = freeShift(blocks, true);
        int down = freeShift(blocks, false);
        boolean upDoes = up <= most && p.staysInSpace(axis, up);
        boolean downDoes = -down <= most && p.staysInSpace(axis, down);
        if (upDoes && (!downDoes || up <= -down)) {
            return up;
        }
        return downDoes ? down : NO;
    }

    public int hull(int part, int axis, int end) throws IllegalArgumentException {
        Part p = partAt(part);
        need(isAxis(axis) && isWithin(end, 0, 1));
        return end == 0 ? p.hullLeast(axis) : p.hullGreatest(axis);
    }

    public int parts() {
        return left;
    }

    // What arguments must be.

    private static void need(boolean holds) {
        if (!holds) {
            throw new IllegalArgumentException("a number is out of its bounds, or no such part");
        }
    }

    private void needRoom() {
        if (made >= MOST_PARTS) {
            throw new IllegalStateException("there were 60 parts");
        }
    }

    private static boolean isWithin(int number, int least, int greatest) {
        return number >= least && number <= greatest;
    }

    private static boolean isKind(int kind) {
        return isWithin(kind, 0, KINDS - 1);
    }

    private static boolean isAxis(int axis) {
        return isWithin(axis, 0, AXES - 1);
    }

    private static boolean isSpan(int from, int length) {
        return isWithin(from, 0, SPACE) && isWithin(length, 1, SPACE) && from + length <= SPACE;
    }

    private static boolean isSeen(int from, int to) {
        return isWithin(from, -SIGHT, SIGHT) && isWithin(to, -SIGHT, SIGHT) && from < to;
    }

    private boolean isThere(int part) {
        return isWithin(part, 0, MOST_PARTS - 1) && row[part] != null;
    }

    /** Never null. */
    private Part partAt(int part) {
        Part p = isWithin(part, 0, MOST_PARTS - 1) ? row[part] : null;
        if (p == null) {
            throw new IllegalArgumentException("no such part");
        }
        return p;
    }

    private int add(Part part) {
        int number = made;
        row[number] = part;
        made++;
        left++;
        return number;
    }

    // Whether two parts meet.

    private boolean areFree(int kind, int other) {
        return freeKinds[kind * KINDS + other];
    }

    private int stateOf(Part p, Part q) {
        if (areFree(p.kind, q.kind)) {
            return APART;
        }
        if (meet(p, 0, q)) {
            return HARD;
        }
        // Grown by 0 a part is what it was, and that does not meet the other.
        boolean soft = (p.softSpace > 0 && meet(p, p.softSpace, q))
            || (q.softSpace > 0 && meet(q, q.softSpace, p));
        return soft ? SOFT : APART;
    }

    /** Whether p, grown by m, meets q. */
    private static boolean meet(Part p, int m, Part q) {
        int axis = roundAxis(p, q);
        if (axis == NONE) {
            return overlap(p, m, q, 0) && overlap(p, m, q, 1) && overlap(p, m, q, 2);
        }
        return overlap(p, m, q, axis) && isNear(p, m, q, axis);
    }

    /** The axis across which the two must be looked at as round; NONE if their hulls decide. */
    private static int roundAxis(Part p, Part q) {
        if (!p.isTube()) {
            return q.tubeAxis;
        }
        return !q.isTube() || q.tubeAxis == p.tubeAxis ? p.tubeAxis : NONE;
    }

    private static boolean overlap(Part p, int m, Part q, int axis) {
        return p.hullLeast(axis) - m < q.hullGreatest(axis)
            && q.hullLeast(axis) < p.hullGreatest(axis) + m;
    }

    /** Whether p, grown by m, and q are nearer than their radii across an axis. */
    private static boolean isNear(Part p, int m, Part q, int axis) {
        int coreGrowth = p.isTube() ? 0 : m;
        int reach = p.radius + q.radius + m - coreGrowth;
        int square = 0;
        for (int across = 0; across < AXES; across++) {
            if (across != axis) {
                int gap = Math.max(0, coreGap(p, q, across) - coreGrowth);
                square += gap * gap;
            }
        }
        return square < reach * reach;
    }

    /** How far apart two cores are along an axis; 0 if they touch or overlap there. */
    private static int coreGap(Part p, Part q, int axis) {
        int above = q.least[axis] - p.greatest[axis];
        int below = p.least[axis] - q.greatest[axis];
        return Math.max(0, Math.max(above, below));
    }

    // Pairs and groups.

    private boolean isPair(int state, int part, int other) {
        Part p = row[part];
        Part q = row[other];
        return p != null && q != null && stateOf(p, q) == state;
    }

    private int countPartners(int state, int lesser) {
        int count = 0;
        for (int greater = lesser + 1; greater < made; greater++) {
            if (isPair(state, lesser, greater)) {
                count++;
            }
        }
        return count;
    }

    private int partnerAt(int state, int lesser, int k) {
        int toSkip = k;
        for (int greater = lesser + 1; greater < made; greater++) {
            if (isPair(state, lesser, greater)) {
                if (toSkip == 0) {
                    return greater;
                }
                toSkip--;
            }
        }
        return NONE;
    }

    /** A part that is gone keeps its own name, alone, so it counts in no group. */
    private void nameGroups() {
        for (int i = 0; i < made; i++) {
            names[i] = i;
        }
        for (int i = 0; i < made; i++) {
            for (int j = i + 1; j < made; j++) {
                if (names[i] != names[j] && isPair(HARD, i, j)) {
                    joinNames(Math.min(names[i], names[j]), Math.max(names[i], names[j]));
                }
            }
        }
    }

    private void joinNames(int kept, int given) {
        for (int i = 0; i < made; i++) {
            if (names[i] == given) {
                names[i] = kept;
            }
        }
    }

    private static boolean cuts(Part p, int axis, int from, int to) {
        return p.hullLeast(axis) < to && from < p.hullGreatest(axis);
    }

    // Shifts. No part has a hollow along an axis, so each other part blocks one unbroken run of
    // shifts, and the shortest free one is 0 or lies just beyond the end of such a run.

    /** Notes the runs of shifts of p, by its number, that others block: how many there are. */
    private int findBlocks(Part p, int number, int axis) {
        int blocks = 0;
        for (int i = 0; i < made; i++) {
            Part q = row[i];
            if (q != null && i != number && !areFree(p.kind, q.kind)
                    && noteBlock(p, q, axis, blocks)) {
                blocks++;
            }
        }
        return blocks;
    }

    /** False if p meets q at no shift along the axis. */
    private boolean noteBlock(Part p, Part q, int axis, int place) {
        int round = roundAxis(p, q);
        if (round == NONE || round == axis) {
            blockLeast[place] = q.hullLeast(axis) - p.hullGreatest(axis) + 1;
            blockGreatest[place] = q.hullGreatest(axis) - p.hullLeast(axis) - 1;
            return round == NONE ? overlapAcross(p, q, axis) : isNear(p, 0, q, axis);
        }
        int width = roundWidth(p, q, thirdAxis(axis, round));
        blockLeast[place] = q.least[axis] - p.greatest[axis] - width;
        blockGreatest[place] = q.greatest[axis] - p.least[axis] + width;
        return width != NONE && overlap(p, 0, q, round);
    }

    private static boolean overlapAcross(Part p, Part q, int axis) {
        for (int across = 0; across < AXES; across++) {
            if (across != axis && !overlap(p, 0, q, across)) {
                return false;
            }
        }
        return true;
    }

    private static int thirdAxis(int axis, int other) {
        return 0 + 1 + 2 - axis - other;
    }

    /** The greatest gap at which p and q still meet, with their gap along the axis across; or NONE. */
    private static int roundWidth(Part p, Part q, int across) {
        int reach = p.radius + q.radius;
        int gap = coreGap(p, q, across);
        int rest = reach * reach - gap * gap;
        for (int width = reach; width >= 0; width--) {
            if (width * width < rest) {
                return width;
            }
        }
        return NONE;
    }

    /** The shortest shift up (or down) that no run blocks. */
    private int freeShift(int blocks, boolean up) {
        int by = 0;
        // Each run is left behind for good, so as many rounds as there are runs are enough.
        for (int i = 0; i < blocks; i++) {
            int hit = blockAt(by, blocks);
            if (hit == NONE) {
                return by;
            }
            by = up ? blockGreatest[hit] + 1 : blockLeast[hit] - 1;
        }
        return by;
    }

    private int blockAt(int by, int blocks) {
        for (int i = 0; i < blocks; i++) {
            if (isWithin(by, blockLeast[i], blockGreatest[i])) {
                return i;
            }
        }
        return NONE;
    }
}
