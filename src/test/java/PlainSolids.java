import java.util.ArrayDeque;
import java.util.ArrayList;
import java.util.List;

/** The document said again, cell by cell and as slowly as it reads, to hold the program against. */
final class PlainSolids {
    static final int BAD = -1;
    static final int NO = -2;

    private record Step(int solid, boolean[][][] before, boolean[][][] after) {
    }

    private final boolean[][][][] solids = new boolean[6][12][12][12];
    private final List<Step> done = new ArrayList<>();
    private final List<Step> takenBack = new ArrayList<>();

    private static boolean solid(int s) {
        return 0 <= s && s <= 5;
    }

    private static boolean axis(int axis) {
        return 0 <= axis && axis <= 2;
    }

    private static boolean coordinate(int c) {
        return 0 <= c && c <= 11;
    }

    private boolean own(int s, int x, int y, int z) {
        return coordinate(x) && coordinate(y) && coordinate(z) && solids[s][x][y][z];
    }

    private boolean own(int s, int[] at) {
        return own(s, at[0], at[1], at[2]);
    }

    private int step(int s, boolean[][][] after) {
        done.add(new Step(s, solids[s], after));
        if (done.size() > 12) {
            done.remove(0);
        }
        takenBack.clear();
        solids[s] = after;
        return volume(s);
    }

    int box(int s, int x, int y, int z, int w, int d, int h) {
        if (!solid(s)) {
            return BAD;
        }
        if (w < 1 || d < 1 || h < 1 || x < 0 || y < 0 || z < 0
                || (long) x + w > 12 || (long) y + d > 12 || (long) z + h > 12) {
            return NO;
        }
        boolean[][][] after = new boolean[12][12][12];
        for (int i = x; i < x + w; i++) {
            for (int j = y; j < y + d; j++) {
                for (int k = z; k < z + h; k++) {
                    after[i][j][k] = true;
                }
            }
        }
        return step(s, after);
    }

    int join(int s, int a, int b, int how) {
        if (!solid(s) || !solid(a) || !solid(b) || how < 0 || how > 3) {
            return BAD;
        }
        boolean[][][] after = new boolean[12][12][12];
        for (int[] c : allCells()) {
            boolean inA = own(a, c);
            boolean inB = own(b, c);
            after[c[0]][c[1]][c[2]] = switch (how) {
                case 0 -> inA || inB;
                case 1 -> inA && inB;
                case 2 -> inA && !inB;
                default -> inA != inB;
            };
        }
        return step(s, after);
    }

    int turn(int s, int axis) {
        if (!solid(s) || !axis(axis)) {
            return BAD;
        }
        boolean[][][] after = new boolean[12][12][12];
        for (int[] c : ownCells(s)) {
            int x = c[0];
            int y = c[1];
            int z = c[2];
            if (axis == 0) {
                after[x][11 - z][y] = true;
            } else if (axis == 1) {
                after[z][y][11 - x] = true;
            } else {
                after[11 - y][x][z] = true;
            }
        }
        return step(s, after);
    }

    int mirror(int s, int axis) {
        if (!solid(s) || !axis(axis)) {
            return BAD;
        }
        boolean[][][] after = new boolean[12][12][12];
        for (int[] c : ownCells(s)) {
            c[axis] = 11 - c[axis];
            after[c[0]][c[1]][c[2]] = true;
        }
        return step(s, after);
    }

    int shift(int s, int dx, int dy, int dz) {
        if (!solid(s)) {
            return BAD;
        }
        boolean[][][] after = new boolean[12][12][12];
        for (int[] c : ownCells(s)) {
            long x = (long) c[0] + dx;
            long y = (long) c[1] + dy;
            long z = (long) c[2] + dz;
            if (x < 0 || x > 11 || y < 0 || y > 11 || z < 0 || z > 11) {
                return NO;
            }
            after[(int) x][(int) y][(int) z] = true;
        }
        return step(s, after);
    }

    int sweep(int s, int a, int axis, int at, int from, int to) {
        if (!solid(s) || !solid(a) || !axis(axis) || !coordinate(at)) {
            return BAD;
        }
        if (from > to || !coordinate(from) || !coordinate(to)) {
            return NO;
        }
        boolean[][][] after = new boolean[12][12][12];
        for (int[] c : allCells()) {
            int[] source = c.clone();
            source[axis] = at;
            after[c[0]][c[1]][c[2]] = from <= c[axis] && c[axis] <= to && own(a, source);
        }
        return step(s, after);
    }

    int undo() {
        if (done.isEmpty()) {
            return NO;
        }
        Step step = done.remove(done.size() - 1);
        takenBack.add(step);
        solids[step.solid()] = step.before();
        return step.solid();
    }

    int redo() {
        if (takenBack.isEmpty()) {
            return NO;
        }
        Step step = takenBack.remove(takenBack.size() - 1);
        done.add(step);
        solids[step.solid()] = step.after();
        return step.solid();
    }

    int volume(int s) {
        return solid(s) ? ownCells(s).size() : BAD;
    }

    int sides(int s) {
        if (!solid(s)) {
            return BAD;
        }
        int count = 0;
        for (int[] c : ownCells(s)) {
            for (int[] n : neighbours(c)) {
                if (!own(s, n)) {
                    count++;
                }
            }
        }
        return count;
    }

    int edges(int s) {
        if (!solid(s)) {
            return BAD;
        }
        int count = 0;
        for (int axis = 0; axis < 3; axis++) {
            for (int x = 0; x <= (axis == 0 ? 11 : 12); x++) {
                for (int y = 0; y <= (axis == 1 ? 11 : 12); y++) {
                    for (int z = 0; z <= (axis == 2 ? 11 : 12); z++) {
                        if (edge(s, axis, new int[] {x, y, z})) {
                            count++;
                        }
                    }
                }
            }
        }
        return count;
    }

    /** Whether the line from a point to the next one along an axis is an edge. */
    private boolean edge(int s, int axis, int[] point) {
        int first = axis == 0 ? 1 : 0;
        int second = axis == 2 ? 1 : 2;
        boolean[][] around = new boolean[2][2];
        int count = 0;
        for (int i = 0; i < 2; i++) {
            for (int j = 0; j < 2; j++) {
                int[] c = point.clone();
                c[first] -= i;
                c[second] -= j;
                around[i][j] = own(s, c);
                count += around[i][j] ? 1 : 0;
            }
        }
        return count == 1 || count == 3 || count == 2 && around[0][0] == around[1][1];
    }

    int pieces(int s) {
        if (!solid(s)) {
            return BAD;
        }
        return parts(s, true, false);
    }

    int hollows(int s) {
        if (!solid(s)) {
            return BAD;
        }
        return parts(s, false, true);
    }

    /** How many sets hang together of cells that are own or not; perhaps only of those off the border. */
    private int parts(int s, boolean own, boolean offBorder) {
        boolean[][][] seen = new boolean[12][12][12];
        int count = 0;
        for (int[] start : allCells()) {
            if (seen[start[0]][start[1]][start[2]] || own(s, start) != own) {
                continue;
            }
            boolean border = false;
            ArrayDeque<int[]> open = new ArrayDeque<>();
            seen[start[0]][start[1]][start[2]] = true;
            open.add(start);
            while (!open.isEmpty()) {
                int[] c = open.remove();
                for (int[] n : neighbours(c)) {
                    if (!coordinate(n[0]) || !coordinate(n[1]) || !coordinate(n[2])) {
                        border = true;
                    } else if (!seen[n[0]][n[1]][n[2]] && own(s, n) == own) {
                        seen[n[0]][n[1]][n[2]] = true;
                        open.add(n);
                    }
                }
            }
            if (!offBorder || !border) {
                count++;
            }
        }
        return count;
    }

    int moment(int s, int axis) {
        if (!solid(s) || !axis(axis)) {
            return BAD;
        }
        int sum = 0;
        for (int[] c : ownCells(s)) {
            sum += 2 * c[axis] + 1;
        }
        return sum;
    }

    int extent(int s, int axis, int end) {
        if (!solid(s) || !axis(axis) || end < 0 || end > 1) {
            return BAD;
        }
        List<int[]> cells = ownCells(s);
        if (cells.isEmpty()) {
            return 12;
        }
        int found = cells.get(0)[axis];
        for (int[] c : cells) {
            found = end == 0 ? Math.min(found, c[axis]) : Math.max(found, c[axis]);
        }
        return found;
    }

    int inside(int s, int x, int y, int z) {
        if (!solid(s) || x < 0 || x > 12 || y < 0 || y > 12 || z < 0 || z > 12) {
            return -9;
        }
        boolean all = true;
        boolean none = true;
        for (int i = x - 1; i <= x; i++) {
            for (int j = y - 1; j <= y; j++) {
                for (int k = z - 1; k <= z; k++) {
                    all &= own(s, i, j, k);
                    none &= !own(s, i, j, k);
                }
            }
        }
        return all ? 1 : none ? -1 : 0;
    }

    int section(int s, int axis, int at) {
        if (!solid(s) || !axis(axis) || !coordinate(at)) {
            return BAD;
        }
        int count = 0;
        for (int[] c : ownCells(s)) {
            count += c[axis] == at ? 1 : 0;
        }
        return count;
    }

    boolean same(int a, int b) {
        if (!solid(a) || !solid(b)) {
            return false;
        }
        for (int[] c : allCells()) {
            if (own(a, c) != own(b, c)) {
                return false;
            }
        }
        return true;
    }

    int depth(int s, int axis, boolean above, int u, int v) {
        if (!solid(s) || !axis(axis) || !coordinate(u) || !coordinate(v)) {
            return BAD;
        }
        return depthAnywhere(s, axis, above, u, v);
    }

    private int depthAnywhere(int s, int axis, boolean above, int u, int v) {
        for (int before = 0; before < 12; before++) {
            if (own(s, inView(axis, u, v, above ? 11 - before : before))) {
                return before;
            }
        }
        return 12;
    }

    private static int[] inView(int axis, int u, int v, int along) {
        return switch (axis) {
            case 0 -> new int[] {along, u, v};
            case 1 -> new int[] {u, along, v};
            default -> new int[] {u, v, along};
        };
    }

    int stroke(int s, int axis, boolean above, int u, int v, int across) {
        if (!solid(s) || !axis(axis) || across < 0 || across > 1 || u < 0 || v < 0
                || u > (across == 0 ? 12 : 11) || v > (across == 1 ? 12 : 11)) {
            return BAD;
        }
        int here = depthAnywhere(s, axis, above, u, v);
        int before = across == 0
                ? depthAnywhere(s, axis, above, u - 1, v) : depthAnywhere(s, axis, above, u, v - 1);
        if (here != before) {
            return 2;
        }
        int first = axis == 0 ? 1 : 0;
        int second = axis == 2 ? 1 : 2;
        for (int along = 0; along <= 12; along++) {
            if (edge(s, across == 0 ? second : first, inView(axis, u, v, along))) {
                return 1;
            }
        }
        return 0;
    }

    int strokes(int s, int axis, boolean above, int kind) {
        if (!solid(s) || !axis(axis) || kind < 1 || kind > 2) {
            return BAD;
        }
        int count = 0;
        for (int i = 0; i <= 12; i++) {
            for (int j = 0; j <= 11; j++) {
                count += stroke(s, axis, above, i, j, 0) == kind ? 1 : 0;
                count += stroke(s, axis, above, j, i, 1) == kind ? 1 : 0;
            }
        }
        return count;
    }

    private static List<int[]> neighbours(int[] c) {
        List<int[]> found = new ArrayList<>();
        for (int axis = 0; axis < 3; axis++) {
            for (int by = -1; by <= 1; by += 2) {
                int[] n = c.clone();
                n[axis] += by;
                found.add(n);
            }
        }
        return found;
    }

    private static List<int[]> allCells() {
        List<int[]> cells = new ArrayList<>();
        for (int x = 0; x < 12; x++) {
            for (int y = 0; y < 12; y++) {
                for (int z = 0; z < 12; z++) {
                    cells.add(new int[] {x, y, z});
                }
            }
        }
        return cells;
    }

    private List<int[]> ownCells(int s) {
        List<int[]> cells = new ArrayList<>();
        for (int[] c : allCells()) {
            if (own(s, c)) {
                cells.add(c);
            }
        }
        return cells;
    }
}
