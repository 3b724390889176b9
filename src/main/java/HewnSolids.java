/** Six solids, each a set of the cells of a 12 x 12 x 12 cube, and the steps that make them. */
public final class HewnSolids {
    public static final int BAD = -1;
    public static final int NO = -2;

    private static final int BAD_POINT = -9;

    private static final int SIZE = 12;
    private static final int SOLIDS = 6;
    private static final int AXES = 3;
    private static final int KEPT_STEPS = 12;

    private static final int INT_BITS = 32;
    private static final int WHOLE_COLUMN = (1 << SIZE) - 1;
    private static final int COLUMN_ENDS = 1 | 1 << (SIZE - 1);

    private static final int EITHER = 0;
    private static final int BOTH = 1;
    private static final int FIRST_ALONE = 2;
    private static final int JUST_ONE = 3;

    private static final int LEAST = 0;
    private static final int GREATEST = 1;

    private static final int NONE = 0;
    private static final int HIDDEN = 1;
    private static final int VISIBLE = 2;

    private final Cells[] solids;
    private final Steps steps;
    private final Cells view;
    private final Flood flood;

    // A step's outcome is built here, so that its sources stay as they were while it is built.
    private Cells outcome;

    public HewnSolids() {
        solids = new Cells[SOLIDS];
        for (int s = 0; s < SOLIDS; s++) {
            solids[s] = new Cells();
        }
        steps = new Steps();
        view = new Cells();
        flood = new Flood();
        outcome = new Cells();
    }

    public int box(int s, int x, int y, int z, int w, int d, int h) {
        if (!isSolid(s)) {
            return BAD;
        }
        if (!isStretch(x, w) || !isStretch(y, d) || !isStretch(z, h)) {
            return NO;
        }
        outcome.becomeBox(x, y, z, x + w - 1, y + d - 1, z + h - 1);
        return takeStep(s);
    }

    public int join(int s, int a, int b, int how) {
        if (!isSolid(s) || !isSolid(a) || !isSolid(b) || how < EITHER || how > JUST_ONE) {
            return BAD;
        }
        outcome.becomeJoined(solids[a], solids[b], how);
        return takeStep(s);
    }

    public int turn(int s, int axis) {
        if (!isSolid(s) || !isAxis(axis)) {
            return BAD;
        }
        outcome.becomeTurned(solids[s], axis);
        return takeStep(s);
    }

    public int mirror(int s, int axis) {
        if (!isSolid(s) || !isAxis(axis)) {
            return BAD;
        }
        outcome.becomeMirrored(solids[s], axis);
        return takeStep(s);
    }

    public int shift(int s, int dx, int dy, int dz) {
        if (!isSolid(s)) {
            return BAD;
        }
        Cells solid = solids[s];
        if (wouldLeave(solid, 0, dx) || wouldLeave(solid, 1, dy) || wouldLeave(solid, 2, dz)) {
            return NO;
        }
        outcome.becomeShifted(solid, dx, dy, dz);
        return takeStep(s);
    }

    public int sweep(int s, int a, int axis, int at, int from, int to) {
        if (!isSolid(s) || !isSolid(a) || !isAxis(axis) || !isCoordinate(at)) {
            return BAD;
        }
        if (from > to || !isCoordinate(from) || !isCoordinate(to)) {
            return NO;
        }
        outcome.becomeSwept(solids[a], axis, at, from, to);
        return takeStep(s);
    }

    public int undo() {
        return steps.takeBack(solids);
    }

    public int redo() {
        return steps.doAgain(solids);
    }

    public int volume(int s) {
        return isSolid(s) ? solids[s].countCells() : BAD;
    }

    public int sides(int s) {
        return isSolid(s) ? solids[s].countSides() : BAD;
    }

    public int edges(int s) {
        return isSolid(s) ? solids[s].countEdges() : BAD;
    }

    public int pieces(int s) {
        return isSolid(s) ? flood.countPieces(solids[s]) : BAD;
    }

    public int hollows(int s) {
        return isSolid(s) ? flood.countHollows(solids[s]) : BAD;
    }

    public int moment(int s, int axis) {
        if (!isSolid(s) || !isAxis(axis)) {
            return BAD;
        }
        int sum = 0;
        for (int at = 0; at < SIZE; at++) {
            sum += (2 * at + 1) * solids[s].countLayer(axis, at);
        }
        return sum;
    }

    public int extent(int s, int axis, int end) {
        if (!isSolid(s) || !isAxis(axis)) {
            return BAD;
        }
        if (end == LEAST) {
            return solids[s].leastAlong(axis);
        }
        return end == GREATEST ? solids[s].greatestAlong(axis) : BAD;
    }

    public int inside(int s, int x, int y, int z) {
        if (!isSolid(s) || !isPlane(x) || !isPlane(y) || !isPlane(z)) {
            return BAD_POINT;
        }
        int own = solids[s].countAround(x, y, z);
        if (own == 0) {
            return -1;
        }
        return own == 8 ? 1 : 0;
    }

    public int section(int s, int axis, int at) {
        if (!isSolid(s) || !isAxis(axis) || !isCoordinate(at)) {
            return BAD;
        }
        return solids[s].countLayer(axis, at);
    }

    public boolean same(int a, int b) {
        return isSolid(a) && isSolid(b) && solids[a].hasCellsOf(solids[b]);
    }

    public int depth(int s, int axis, boolean above, int u, int v) {
        if (!isSolid(s) || !isAxis(axis) || !isCoordinate(u) || !isCoordinate(v)) {
            return BAD;
        }
        return depthOf(solids[s].columnAlong(axis, u, v), above);
    }

    public int stroke(int s, int axis, boolean above, int u, int v, int across) {
        if (!isSolid(s) || !isAxis(axis) || !isStrokePlace(u, v, across)) {
            return BAD;
        }
        int before = solids[s].columnAlong(axis, u - 1 + across, v - across);
        return strokeBetween(before, solids[s].columnAlong(axis, u, v), above);
    }

    public int strokes(int s, int axis, boolean above, int kind) {
        if (!isSolid(s) || !isAxis(axis) || (kind != HIDDEN && kind != VISIBLE)) {
            return BAD;
        }
        view.becomeView(solids[s], axis);
        int count = 0;
        // Where u or v is SIZE, a pair that is wholly outside has no stroke, so it adds nothing.
        for (int u = 0; u <= SIZE; u++) {
            for (int v = 0; v <= SIZE; v++) {
                int here = view.column(u, v);
                if (strokeBetween(view.column(u - 1, v), here, above) == kind) {
                    count++;
                }
                if (strokeBetween(view.column(u, v - 1), here, above) == kind) {
                    count++;
                }
            }
        }
        return count;
    }

    private int takeStep(int s) {
        Cells before = solids[s];
        solids[s] = outcome;
        outcome = steps.keep(s, before);
        return solids[s].countCells();
    }

    private static boolean isSolid(int s) {
        return s >= 0 && s < SOLIDS;
    }

    private static boolean isAxis(int axis) {
        return axis >= 0 && axis < AXES;
    }

    private static boolean isCoordinate(int c) {
        return c >= 0 && c < SIZE;
    }

    private static boolean isPlane(int c) {
        return c >= 0 && c <= SIZE;
    }

    // The length is held against the room that is left, since a sum could wrap around.
    private static boolean isStretch(int start, int length) {
        return isCoordinate(start) && length >= 1 && length <= SIZE - start;
    }

    private static boolean isStrokePlace(int u, int v, int across) {
        if (across == 0) {
            return isPlane(u) && isCoordinate(v);
        }
        return across == 1 && isCoordinate(u) && isPlane(v);
    }

    private static boolean wouldLeave(Cells solid, int axis, int by) {
        int least = solid.leastAlong(axis);
        if (least == SIZE) {
            return false;
        }
        return by < -least || by > SIZE - 1 - solid.greatestAlong(axis);
    }

    private static int depthOf(int column, boolean above) {
        if (column == 0) {
            return SIZE;
        }
        if (above) {
            return Integer.numberOfLeadingZeros(column) - (INT_BITS - SIZE);
        }
        return Integer.numberOfTrailingZeros(column);
    }

    private static int strokeBetween(int column, int next, boolean above) {
        if (depthOf(column, above) != depthOf(next, above)) {
            return VISIBLE;
        }
        return edgesBetween(column, next) != 0 ? HIDDEN : NONE;
    }

    // Bit c tells of the line across the columns at coordinate c: cells c - 1 and c of both columns
    // are around it.
    private static int edgesBetween(int column, int next) {
        return edgesAmong(column, column << 1, next, next << 1);
    }

    // The four lie around the lines as a b over c d. A line is no edge just when each cell is like
    // the one beside it, or each like the one below it.
    private static int edgesAmong(int a, int b, int c, int d) {
        return ((a ^ b) | (c ^ d)) & ((a ^ c) | (b ^ d));
    }

    /** A set of cells: bit z of column (x, y) is cell (x, y, z). */
    private static final class Cells {
        private final int[] columns;

        Cells() {
            columns = new int[SIZE * SIZE];
        }

        int column(int x, int y) {
            return isCoordinate(x) && isCoordinate(y) ? columns[x * SIZE + y] : 0;
        }

        /** Column (u, v) of the view along an axis, as bits; outside the cube it is empty. */
        int columnAlong(int axis, int u, int v) {
            if (axis == 2) {
                return column(u, v);
            }
            if (!isCoordinate(v)) {
                return 0;
            }
            int bits = 0;
            for (int c = 0; c < SIZE; c++) {
                int crossed = axis == 0 ? column(c, u) : column(u, c);
                bits |= (crossed >> v & 1) << c;
            }
            return bits;
        }

        void becomeView(Cells solid, int axis) {
            for (int u = 0; u < SIZE; u++) {
                for (int v = 0; v < SIZE; v++) {
                    columns[u * SIZE + v] = solid.columnAlong(axis, u, v);
                }
            }
        }

        void becomeBox(int x0, int y0, int z0, int x1, int y1, int z1) {
            int span = spanOf(z0, z1);
            for (int x = 0; x < SIZE; x++) {
                for (int y = 0; y < SIZE; y++) {
                    boolean within = x >= x0 && x <= x1 && y >= y0 && y <= y1;
                    columns[x * SIZE + y] = within ? span : 0;
                }
            }
        }

        void becomeJoined(Cells a, Cells b, int how) {
            for (int i = 0; i < SIZE * SIZE; i++) {
                columns[i] = joined(a.columns[i], b.columns[i], how);
            }
        }

        void becomeTurned(Cells solid, int axis) {
            for (int x = 0; x < SIZE; x++) {
                for (int y = 0; y < SIZE; y++) {
                    columns[x * SIZE + y] = turnedColumn(solid, axis, x, y);
                }
            }
        }

        void becomeMirrored(Cells solid, int axis) {
            for (int x = 0; x < SIZE; x++) {
                for (int y = 0; y < SIZE; y++) {
                    columns[x * SIZE + y] = mirroredColumn(solid, axis, x, y);
                }
            }
        }

        void becomeShifted(Cells solid, int dx, int dy, int dz) {
            for (int x = 0; x < SIZE; x++) {
                for (int y = 0; y < SIZE; y++) {
                    int source = solid.column(x - dx, y - dy);
                    columns[x * SIZE + y] = dz < 0 ? source >> -dz : source << dz;
                }
            }
        }

        void becomeSwept(Cells source, int axis, int at, int from, int to) {
            int span = spanOf(from, to);
            for (int x = 0; x < SIZE; x++) {
                for (int y = 0; y < SIZE; y++) {
                    int swept;
                    if (axis == 0) {
                        swept = x >= from && x <= to ? source.column(at, y) : 0;
                    } else if (axis == 1) {
                        swept = y >= from && y <= to ? source.column(x, at) : 0;
                    } else {
                        swept = (source.column(x, y) >> at & 1) == 1 ? span : 0;
                    }
                    columns[x * SIZE + y] = swept;
                }
            }
        }

        int countCells() {
            int count = 0;
            for (int i = 0; i < SIZE * SIZE; i++) {
                count += Integer.bitCount(columns[i]);
            }
            return count;
        }

        int countLayer(int axis, int at) {
            int count = 0;
            for (int i = 0; i < SIZE; i++) {
                if (axis == 0) {
                    count += Integer.bitCount(column(at, i));
                } else if (axis == 1) {
                    count += Integer.bitCount(column(i, at));
                } else {
                    count += Integer.bitCount(columnAlong(0, i, at));
                }
            }
            return count;
        }

        int leastAlong(int axis) {
            for (int at = 0; at < SIZE; at++) {
                if (countLayer(axis, at) > 0) {
                    return at;
                }
            }
            return SIZE;
        }

        int greatestAlong(int axis) {
            for (int at = SIZE - 1; at >= 0; at--) {
                if (countLayer(axis, at) > 0) {
                    return at;
                }
            }
            return SIZE;
        }

        int countSides() {
            int count = 0;
            for (int x = 0; x <= SIZE; x++) {
                for (int y = 0; y <= SIZE; y++) {
                    int here = column(x, y);
                    count += Integer.bitCount(here ^ column(x - 1, y));
                    count += Integer.bitCount(here ^ column(x, y - 1));
                    count += Integer.bitCount(here ^ here << 1);
                }
            }
            return count;
        }

        int countEdges() {
            int count = 0;
            for (int x = 0; x <= SIZE; x++) {
                for (int y = 0; y <= SIZE; y++) {
                    int here = column(x, y);
                    int lesserX = column(x - 1, y);
                    int lesserY = column(x, y - 1);
                    int lesserBoth = column(x - 1, y - 1);
                    count += Integer.bitCount(edgesBetween(lesserX, here));
                    count += Integer.bitCount(edgesBetween(lesserY, here));
                    count += Integer.bitCount(edgesAmong(lesserBoth, lesserY, lesserX, here));
                }
            }
            return count;
        }

        int countAround(int x, int y, int z) {
            return countPair(x - 1, y - 1, z) + countPair(x - 1, y, z)
                    + countPair(x, y - 1, z) + countPair(x, y, z);
        }

        boolean hasCellsOf(Cells other) {
            for (int i = 0; i < SIZE * SIZE; i++) {
                if (columns[i] != other.columns[i]) {
                    return false;
                }
            }
            return true;
        }

        // Cells z - 1 and z of a column. It is moved up by one to have an empty bit for z - 1 = -1.
        private int countPair(int x, int y, int z) {
            return Integer.bitCount((column(x, y) << 1) >> z & 3);
        }

        private static int spanOf(int from, int to) {
            return (1 << (to + 1)) - (1 << from);
        }

        private static int joined(int a, int b, int how) {
            switch (how) {
                case EITHER:
                    return a | b;
                case BOTH:
                    return a & b;
                case FIRST_ALONE:
                    return a & ~b;
                default:
                    return a ^ b;
            }
        }

        // Cells that a turn brings to column (x, y) stood in one column before it, along the axis
        // that is turned into z.
        private static int turnedColumn(Cells solid, int axis, int x, int y) {
            if (axis == 0) {
                return solid.columnAlong(1, x, SIZE - 1 - y);
            }
            if (axis == 1) {
                return reversed(solid.columnAlong(0, y, x));
            }
            return solid.column(y, SIZE - 1 - x);
        }

        private static int mirroredColumn(Cells solid, int axis, int x, int y) {
            if (axis == 0) {
                return solid.column(SIZE - 1 - x, y);
            }
            if (axis == 1) {
                return solid.column(x, SIZE - 1 - y);
            }
            return reversed(solid.column(x, y));
        }

        private static int reversed(int column) {
            return Integer.reverse(column) >>> (INT_BITS - SIZE);
        }
    }

    /** The steps that are kept, oldest first, in a ring: those done, then those taken back. */
    private static final class Steps {
        private final int[] numbers;
        private final Cells[] others;
        private int oldest;
        private int done;
        private int takenBack;

        Steps() {
            numbers = new int[KEPT_STEPS];
            others = new Cells[KEPT_STEPS];
            for (int i = 0; i < KEPT_STEPS; i++) {
                others[i] = new Cells();
            }
        }

        /** Keeps what a solid was before a step, and gives cells that nothing needs any more. */
        Cells keep(int number, Cells before) {
            if (done == KEPT_STEPS) {
                oldest = (oldest + 1) % KEPT_STEPS;
                done--;
            }
            int place = (oldest + done) % KEPT_STEPS;
            Cells free = others[place];
            numbers[place] = number;
            others[place] = before;
            done++;
            takenBack = 0;
            return free;
        }

        int takeBack(Cells[] solids) {
            if (done == 0) {
                return NO;
            }
            done--;
            takenBack++;
            return exchange(solids, (oldest + done) % KEPT_STEPS);
        }

        int doAgain(Cells[] solids) {
            if (takenBack == 0) {
                return NO;
            }
            int place = (oldest + done) % KEPT_STEPS;
            done++;
            takenBack--;
            return exchange(solids, place);
        }

        // A step keeps the one of its two states that its solid is not in, so that both ways are
        // one exchange.
        private int exchange(Cells[] solids, int place) {
            int number = numbers[place];
            Cells other = others[place];
            others[place] = solids[number];
            solids[number] = other;
            return number;
        }
    }

    /** Takes sets of cells that hang together out of a set, and counts them. */
    private static final class Flood {
        private final int[] left;
        // Each entry is the place of a column, above the bits of cells that were taken out of it.
        private final int[] taken;
        private int end;

        Flood() {
            left = new int[SIZE * SIZE];
            // An entry has at least one cell that no other has, so there are never more of them.
            taken = new int[SIZE * SIZE * SIZE];
        }

        int countPieces(Cells solid) {
            for (int i = 0; i < SIZE * SIZE; i++) {
                left[i] = solid.columns[i];
            }
            return countLeft();
        }

        int countHollows(Cells solid) {
            for (int i = 0; i < SIZE * SIZE; i++) {
                left[i] = WHOLE_COLUMN & ~solid.columns[i];
            }
            dropFromBorder();
            return countLeft();
        }

        private void dropFromBorder() {
            end = 0;
            for (int x = 0; x < SIZE; x++) {
                for (int y = 0; y < SIZE; y++) {
                    boolean outer = x == 0 || x == SIZE - 1 || y == 0 || y == SIZE - 1;
                    take(x, y, outer ? WHOLE_COLUMN : COLUMN_ENDS);
                }
            }
            spread();
        }

        private int countLeft() {
            int count = 0;
            for (int x = 0; x < SIZE; x++) {
                for (int y = 0; y < SIZE; y++) {
                    count += countFrom(x, y);
                }
            }
            return count;
        }

        private int countFrom(int x, int y) {
            int count = 0;
            for (int z = 0; z < SIZE; z++) {
                end = 0;
                take(x, y, 1 << z);
                if (end > 0) {
                    count++;
                    spread();
                }
            }
            return count;
        }

        private void spread() {
            for (int i = 0; i < taken.length && i < end; i++) {
                int place = taken[i] >> SIZE;
                int bits = taken[i] & WHOLE_COLUMN;
                int x = place / SIZE;
                int y = place % SIZE;
                take(x, y, bits << 1 | bits >> 1);
                take(x - 1, y, bits);
                take(x + 1, y, bits);
                take(x, y - 1, bits);
                take(x, y + 1, bits);
            }
        }

        private void take(int x, int y, int bits) {
            if (!isCoordinate(x) || !isCoordinate(y)) {
                return;
            }
            int place = x * SIZE + y;
            int fresh = left[place] & bits;
            if (fresh != 0 && end < taken.length) {
                left[place] ^= fresh;
                taken[end] = place << SIZE | fresh;
                end++;
            }
        }
    }
}
