import java.util.ArrayList;
import java.util.List;

/** Solids for tests, put together cell by cell with solid 5 as the tool. */
final class Hew {
    static final int TOOL = 5;

    private Hew() {
    }

    /** A place by its coordinate along an axis and its two others, that of the lesser axis first. */
    static int[] place(int axis, int along, int u, int v) {
        return switch (axis) {
            case 0 -> new int[] {along, u, v};
            case 1 -> new int[] {u, along, v};
            default -> new int[] {u, v, along};
        };
    }

    static boolean isCell(int... c) {
        return c[0] >= 0 && c[0] <= 11 && c[1] >= 0 && c[1] <= 11 && c[2] >= 0 && c[2] <= 11;
    }

    /** The corner cells, and those beside them: each coordinate is at the border or the next one. */
    static List<int[]> cellsNearTheBorder() {
        int[] near = {0, 1, 10, 11};
        List<int[]> cells = new ArrayList<>();
        for (int x : near) {
            for (int y : near) {
                for (int z : near) {
                    cells.add(new int[] {x, y, z});
                }
            }
        }
        return cells;
    }

    static void whole(HewnSolids x, int s) {
        x.box(s, 0, 0, 0, 12, 12, 12);
    }

    static int cell(HewnSolids x, int s, int[] c) {
        return x.box(s, c[0], c[1], c[2], 1, 1, 1);
    }

    static void add(HewnSolids x, int s, int[]... cells) {
        for (int[] c : cells) {
            cell(x, TOOL, c);
            x.join(s, s, TOOL, 0);
        }
    }

    static void cut(HewnSolids x, int s, int[]... cells) {
        for (int[] c : cells) {
            cell(x, TOOL, c);
            x.join(s, s, TOOL, 2);
        }
    }

    /** A new object whose solid 0 has just these cells. */
    static HewnSolids ofCells(int[]... cells) {
        HewnSolids x = new HewnSolids();
        add(x, 0, cells);
        return x;
    }

    /** A new object whose solid 0 has all cells but these. */
    static HewnSolids ofAllBut(int[]... cells) {
        HewnSolids x = new HewnSolids();
        whole(x, 0);
        cut(x, 0, cells);
        return x;
    }
}
