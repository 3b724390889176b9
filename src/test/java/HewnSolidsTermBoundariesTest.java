import java.util.ArrayList;
import java.util.List;
import java.util.function.Consumer;

/** The sentences of 'What it is' and 'Terms' that name a boundary case, a test each. */
public final class HewnSolidsTermBoundariesTest {
    private static final int NO = HewnSolids.NO;

    private static final Check CHECK = new Check();
    private static final Refusals REFUSED = new Refusals(CHECK);

    public static void main(String[] args) {
        anObjectIsUsedFor512Calls();
        noCallThrowsBehindThe512th();
        cellsAre0To11();
        axesAreXYZ();
        solidsAre0To5();
        solidsAreEmptyAtFirst();
        cellsTouchWithASideInCommon();
        outsideTheCubeThereIsNothing();
        aStepThatChangesNothingIsAStep();
        theLatestTwelveStepsAreKept();
        theTwelveAreThoseNotTakenBack();
        withANewStepThoseTakenBackGo();
        aSideIsAtACellThatIsNotOwn();
        aSideIsAtTheOutside();
        piecesHangTogetherByTouching();
        hollowsHangTogetherLikewise();
        noCellOfAHollowIsAtTheBorder();
        pointsAre0To12();
        someCellsAroundALineMayBeOutside();
        anEdgeHasOneOrThreeOrTwoOppositeCells();
        aViewIsFromBelowOrAbove();
        columnsAre0To11();
        theLesserAxisComesFirst();
        depthIsWhatLiesBefore();
        depthIs12WithoutACell();
        strokesAreAt0To12();
        theDepthOutsideIs12();
        aStrokeIsVisibleWhenDepthsDiffer();
        aStrokeIsHiddenAtAnyCoordinate();
        aStrokeNeedsALineThatLiesThere();
        noMeansThatTheSolidStays();
        CHECK.finish();
    }

    private static void due(String call, int want, int got) {
        CHECK.due(call, want, got);
    }

    private static void anObjectIsUsedFor512Calls() {
        CHECK.sentence("An object is used for at most 512 calls after it has been made");
        HewnSolids x = new HewnSolids();
        for (int call = 1; call <= 500; call++) {
            due("step " + call, 1 + call % 12, x.box(call % 6, 0, 0, 0, 1 + call % 12, 1, 1));
        }
        for (int call = 501; call <= 512; call++) {
            due("undo as call " + call, (1001 - call) % 6, x.undo());
        }
        x = afterCalls(511);
        due("a step as call 512", 1728, x.box(2, 0, 0, 0, 12, 12, 12));
        x = afterCalls(511);
        due("a question as call 512", 2 * (4 + 1), x.strokes(3, 2, true, 2));
    }

    /** All calls were steps; the last one of solid 3 made it a box of 4 x 1 x 1 cells. */
    private static HewnSolids afterCalls(int calls) {
        HewnSolids x = new HewnSolids();
        for (int call = 1; call <= calls; call++) {
            x.box(call % 6, 0, 0, 0, 1 + call % 6, 1, 1);
        }
        return x;
    }

    private static void noCallThrowsBehindThe512th() {
        CHECK.sentence("what later calls answer is free (but none may throw: LANGUAGE.md, rule 7)");
        HewnSolids x = afterCalls(2000);
        for (int i = 0; i < 2000; i++) {
            x.join(i % 6, (i + 1) % 6, (i + 3) % 6, i % 4);
            x.undo();
            x.redo();
            x.pieces(i % 6);
            x.hollows(i % 6);
            x.strokes(i % 6, i % 3, false, 1);
        }
        CHECK.due("it went on", true, true);
    }

    private static void cellsAre0To11() {
        CHECK.sentence("cell (x, y, z), each 0 .. 11");
        for (int axis = 0; axis < 3; axis++) {
            HewnSolids x = new HewnSolids();
            for (int c = 0; c <= 11; c++) {
                due("a cell at " + c, 1, Hew.cell(x, 0, Hew.place(axis, c, 4, 7)));
                due("it is there", 1, x.section(0, axis, c));
                due("and nowhere else", 2 * c + 1, x.moment(0, axis));
            }
            for (int c : new int[] {-1, 12}) {
                int[] out = Hew.place(axis, c, 4, 7);
                REFUSED.due("a cell at " + c, NO, y -> Hew.cell(y, 0, out));
            }
        }
    }

    private static void axesAreXYZ() {
        CHECK.sentence("AXES are 0 x, 1 y, 2 z");
        HewnSolids x = new HewnSolids();
        x.box(0, 0, 0, 0, 2, 3, 5);
        due("axis 0 is x", 1, x.extent(0, 0, 1));
        due("axis 1 is y", 2, x.extent(0, 1, 1));
        due("axis 2 is z", 4, x.extent(0, 2, 1));
        REFUSED.dueBeyond(0, 2, "extent(0, n, 1)", HewnSolids.BAD, (y, n) -> y.extent(0, n, 1));
    }

    private static void solidsAre0To5() {
        CHECK.sentence("SOLIDS are 0 .. 5, sets of cells");
        HewnSolids x = new HewnSolids();
        for (int s = 0; s <= 5; s++) {
            due("a solid is made", s + 1, x.box(s, 0, 0, 0, s + 1, 1, 1));
        }
        for (int s = 0; s <= 5; s++) {
            due("each is a set of its own", s + 1, x.volume(s));
        }
        REFUSED.dueBeyond(0, 5, "box(n, 0, 0, 0, 1, 1, 1)", HewnSolids.BAD, (y, n) -> y.box(n, 0, 0, 0, 1, 1, 1));
    }

    private static void solidsAreEmptyAtFirst() {
        CHECK.sentence("(empty at first)");
        for (int s = 0; s <= 5; s++) {
            HewnSolids x = new HewnSolids();
            due("volume", 0, x.volume(s));
            due("extent", 12, x.extent(s, 0, 0));
            x.box(s, 11, 11, 11, 1, 1, 1);
            due("volume behind a step", 1, x.volume(s));
        }
    }

    private static void cellsTouchWithASideInCommon() {
        CHECK.sentence("Two cells TOUCH when they have a side in common");
        int[] middle = {5, 5, 5};
        for (int i = 0; i < 27; i++) {
            int dx = i / 9 - 1;
            int dy = i / 3 % 3 - 1;
            int dz = i % 3 - 1;
            int away = Math.abs(dx) + Math.abs(dy) + Math.abs(dz);
            int[] other = {5 + dx, 5 + dy, 5 + dz};
            int sets = away <= 1 ? 1 : 2;
            String where = dx + ", " + dy + ", " + dz;
            due("pieces of two cells, away by " + where, sets, Hew.ofCells(middle, other).pieces(0));
            due("hollows of two cells, away by " + where, sets, Hew.ofAllBut(middle, other).hollows(0));
        }
    }

    private static void outsideTheCubeThereIsNothing() {
        CHECK.sentence("Outside the cube there is nothing");
        for (int axis = 0; axis < 3; axis++) {
            dueApart("at both ends of axis " + axis, Hew.place(axis, 0, 5, 6), Hew.place(axis, 11, 5, 6));
            // Where columns are held in one row, the end of one lies beside the beginning of the next.
            dueApart("at an end and the next one's beginning across axis " + axis,
                    Hew.place(axis, 5, 4, 11), Hew.place(axis, 5, 5, 0));
            dueApart("the other way across axis " + axis, Hew.place(axis, 5, 11, 4), Hew.place(axis, 5, 0, 5));
            HewnSolids whole = Hew.ofAllBut();
            due("all of the outline is seen along " + axis, 48, whole.strokes(0, axis, true, 2));
            due("nothing is hidden along " + axis, 0, whole.strokes(0, axis, true, 1));
        }
        due("sides of the whole cube", 6 * 144, Hew.ofAllBut().sides(0));
        due("edges of the whole cube", 12 * 12, Hew.ofAllBut().edges(0));
    }

    private static void dueApart(String where, int[] one, int[] other) {
        HewnSolids x = Hew.ofCells(one, other);
        due("pieces " + where, 2, x.pieces(0));
        due("sides " + where, 12, x.sides(0));
        due("edges " + where, 24, x.edges(0));
        due("hollows of the rest " + where, 0, Hew.ofAllBut(one, other).hollows(0));
    }

    private static void aStepThatChangesNothingIsAStep() {
        CHECK.sentence("perhaps the same as it was; it is a step all the same");
        dueStepWithoutChange("box", x -> x.box(0, 0, 0, 0, 12, 12, 12));
        for (int how = 0; how < 2; how++) {
            int likeIt = how;
            dueStepWithoutChange("join how " + how, x -> x.join(0, 0, 0, likeIt));
        }
        dueStepWithoutChange("join with an empty one, but not", x -> x.join(0, 0, 3, 2));
        dueStepWithoutChange("join with an empty one, just one", x -> x.join(0, 0, 3, 3));
        for (int i = 0; i < 3; i++) {
            int axis = i;
            dueStepWithoutChange("turn " + axis, x -> x.turn(0, axis));
            dueStepWithoutChange("mirror " + axis, x -> x.mirror(0, axis));
            dueStepWithoutChange("sweep " + axis, x -> x.sweep(0, 0, axis, 11, 0, 11));
        }
        dueStepWithoutChange("shift", x -> x.shift(0, 0, 0, 0));
    }

    private static void dueStepWithoutChange(String call, Consumer<HewnSolids> step) {
        HewnSolids x = new HewnSolids();
        Hew.whole(x, 0);
        x.box(1, 0, 0, 0, 1, 1, 1);
        x.undo();
        step.accept(x);
        due(call + ": the solid is the same", 1728, x.volume(0));
        due(call + ": what was taken back is gone", NO, x.redo());
        due(call + ": it is taken back", 0, x.undo());
        due(call + ": the solid is still the same", 1728, x.volume(0));
        due(call + ": it is done again", 0, x.redo());
        due(call + ": it is taken back again", 0, x.undo());
        due(call + ": so is the step before", 0, x.undo());
        due(call + ": then it is empty", 0, x.volume(0));
        due(call + ": there were two", NO, x.undo());
    }

    private static void theLatestTwelveStepsAreKept() {
        CHECK.sentence("The latest 12 steps that were not taken back are kept");
        for (int steps : new int[] {0, 1, 11, 12, 13, 14, 23, 24, 25, 60}) {
            HewnSolids x = new HewnSolids();
            for (int i = 1; i <= steps; i++) {
                x.box(i % 6, 0, 0, 0, 1 + i % 12, 1 + i / 12, 1);
            }
            for (int i = steps; i > Math.max(steps - 12, 0); i--) {
                due("undo of step " + i + " of " + steps, i % 6, x.undo());
                dueShape("what it was before step " + i, x, i % 6, Math.max(i - 6, 0));
            }
            due("undo of what is not kept of " + steps, NO, x.undo());
            for (int i = Math.max(steps - 12, 0); i > Math.max(steps - 18, 0); i--) {
                dueShape("step " + i + " stays done", x, i % 6, i);
            }
        }
    }

    /** Step i makes a shape of its own; 0 is none. */
    private static void dueShape(String call, HewnSolids x, int s, int i) {
        due(call + ", along x", i == 0 ? 12 : i % 12, x.extent(s, 0, 1));
        due(call + ", along y", i == 0 ? 12 : i / 12, x.extent(s, 1, 1));
    }

    private static void theTwelveAreThoseNotTakenBack() {
        CHECK.sentence("The latest 12 steps that were not taken back are kept (some were taken back before)");
        for (int back : new int[] {1, 2, 11, 12}) {
            for (int more : new int[] {1, 2, back, back + 1, 12, 13}) {
                History history = new History();
                history.take(15);
                history.takeBack(back);
                history.take(more);
                history.takeBackAll("15 steps, " + back + " back, " + more + " more: ");
            }
        }
        History history = new History();
        history.take(15);
        history.takeBack(12);
        due("redo", 0, history.x.redo());
        due("what is done again is kept", 0, history.x.undo());
        due("and no more", NO, history.x.undo());
    }

    /** Steps of solid 0 alone, and beside them the shapes that it has had, from before the oldest kept step on. */
    private static final class History {
        private final HewnSolids x = new HewnSolids();
        private final List<Integer> shapes = new ArrayList<>(List.of(0));
        private int steps;

        private void take(int more) {
            for (int i = 0; i < more; i++) {
                steps++;
                x.box(0, 0, 0, 0, 1 + steps % 12, 1 + steps / 12, 1);
                shapes.add(steps);
                if (shapes.size() > 13) {
                    shapes.remove(0);
                }
            }
        }

        private void takeBack(int back) {
            for (int i = 0; i < back; i++) {
                due("undo", 0, x.undo());
                shapes.remove(shapes.size() - 1);
            }
        }

        private void takeBackAll(String what) {
            for (int kept = shapes.size() - 1; kept > 0; kept--) {
                due(what + "undo with " + kept + " kept", 0, x.undo());
                dueShape(what + "shape with " + kept + " kept", x, 0, shapes.get(kept - 1));
            }
            due(what + "no more is kept", NO, x.undo());
        }
    }

    private static void withANewStepThoseTakenBackGo() {
        CHECK.sentence("with a new step, those that were taken back go");
        for (int back = 1; back <= 12; back++) {
            History history = new History();
            history.take(12);
            history.takeBack(back);
            history.take(1);
            due("redo, " + back + " were taken back", NO, history.x.redo());
            dueShape("it stays as the new step made it", history.x, 0, 13);
            history.takeBackAll(back + " were taken back, and one more: ");
            for (int i = 0; i < 13 - back; i++) {
                due("those not taken back before are done again", 0, history.x.redo());
            }
            dueShape("the new step is the last of them", history.x, 0, 13);
            due("and no more", NO, history.x.redo());
        }
    }

    private static void aSideIsAtACellThatIsNotOwn() {
        CHECK.sentence("A SIDE of a solid is a square between a cell of it and one that is not");
        for (int axis = 0; axis < 3; axis++) {
            HewnSolids x = Hew.ofCells(Hew.place(axis, 5, 5, 5), Hew.place(axis, 6, 5, 5));
            due("two cells that touch along " + axis, 10, x.sides(0));
            x = Hew.ofCells(Hew.place(axis, 5, 5, 5), Hew.place(axis, 7, 5, 5));
            due("two cells with one between along " + axis, 12, x.sides(0));
        }
        due("all but a cell in the middle", 6 * 144 + 6, Hew.ofAllBut(new int[] {5, 6, 5}).sides(0));
        due("an empty one", 0, new HewnSolids().sides(0));
    }

    private static void aSideIsAtTheOutside() {
        CHECK.sentence("(or the outside)");
        for (int[] c : Hew.cellsNearTheBorder()) {
            int atBorder = 0;
            for (int along : c) {
                atBorder += along == 0 || along == 11 ? 1 : 0;
            }
            due("a cell near the border", 6, Hew.ofCells(c).sides(0));
            due("all but a cell near the border", 6 * 144 + 6 - 2 * atBorder, Hew.ofAllBut(c).sides(0));
        }
    }


    private static void piecesHangTogetherByTouching() {
        CHECK.sentence("PIECES are sets of its cells that hang together by touching");
        due("no cell", 0, new HewnSolids().pieces(0));
        due("all cells", 1, Hew.ofAllBut().pieces(0));
        for (int[] c : Hew.cellsNearTheBorder()) {
            due("a cell alone", 1, Hew.ofCells(c).pieces(0));
            due("all but a cell", 1, Hew.ofAllBut(c).pieces(0));
        }
        HewnSolids x = new HewnSolids();
        x.box(0, 0, 0, 0, 12, 1, 1);
        due("a row", 1, x.pieces(0));
        Hew.cut(x, 0, new int[] {6, 0, 0});
        due("a row with a gap", 2, x.pieces(0));
        Hew.add(x, 0, new int[] {5, 1, 0}, new int[] {6, 1, 0});
        due("one end of a way around the gap", 2, x.pieces(0));
        Hew.add(x, 0, new int[] {7, 1, 0});
        due("a way around the gap", 1, x.pieces(0));
    }

    private static void hollowsHangTogetherLikewise() {
        CHECK.sentence("HOLLOWS are sets of cells that are not its own, hang together likewise");
        due("all of an empty one hangs together", 0, new HewnSolids().hollows(0));
        due("a whole one has none", 0, Hew.ofAllBut().hollows(0));
        HewnSolids x = Hew.ofAllBut(new int[] {4, 5, 5}, new int[] {6, 5, 5});
        due("two with a wall between", 2, x.hollows(0));
        Hew.cut(x, 0, new int[] {5, 5, 5});
        due("without the wall", 1, x.hollows(0));
        x = new HewnSolids();
        x.box(0, 4, 4, 4, 3, 3, 3);
        Hew.cut(x, 0, new int[] {5, 5, 5});
        due("a shell, and what is around it", 1, x.hollows(0));
        x.box(1, 2, 2, 2, 7, 7, 7);
        x.box(2, 3, 3, 3, 5, 5, 5);
        x.join(1, 1, 2, 2);
        x.join(0, 0, 1, 0);
        due("a shell in a shell", 2, x.hollows(0));
    }

    private static void noCellOfAHollowIsAtTheBorder() {
        CHECK.sentence("and of which none is at the border of the cube");
        for (int axis = 0; axis < 3; axis++) {
            for (int c = 0; c <= 11; c++) {
                HewnSolids x = Hew.ofAllBut(Hew.place(axis, c, 4, 7));
                due("a hole at " + c + " along " + axis, c == 0 || c == 11 ? 0 : 1, x.hollows(0));
            }
            dueHollowUpToTheBorder(axis, 0, 1);
            dueHollowUpToTheBorder(axis, 11, -1);
        }
        HewnSolids x = Hew.ofAllBut(new int[] {0, 0, 5}, new int[] {1, 1, 5});
        due("with a line in common with one at the border", 1, x.hollows(0));
        Hew.cut(x, 0, new int[] {0, 1, 5});
        due("hanging together with it", 0, x.hollows(0));
    }

    /** A hollow that leads away from the border, and the cell at the border that it ends before. */
    private static void dueHollowUpToTheBorder(int axis, int border, int inwards) {
        HewnSolids x = new HewnSolids();
        Hew.whole(x, 0);
        for (int i = 1; i <= 5; i++) {
            Hew.cut(x, 0, Hew.place(axis, border + i * inwards, 4, 7));
        }
        due("a hollow up to the border", 1, x.hollows(0));
        Hew.cut(x, 0, Hew.place(axis, border, 4, 7));
        due("a hollow into the border", 0, x.hollows(0));
    }

    private static void pointsAre0To12() {
        CHECK.sentence("A POINT is (x, y, z), each 0 .. 12");
        REFUSED.dueBeyond(0, 12, "inside(0, n, 0, 12)", -9, (x, n) -> x.inside(0, n, 0, 12));
        REFUSED.dueBeyond(0, 12, "inside(0, 12, n, 0)", -9, (x, n) -> x.inside(0, 12, n, 0));
        REFUSED.dueBeyond(0, 12, "inside(0, 0, 12, n)", -9, (x, n) -> x.inside(0, 0, 12, n));
    }

    private static void someCellsAroundALineMayBeOutside() {
        CHECK.sentence("it has four cells around it (some may be outside)");
        int[][] places = {{0, 6}, {12, 6}, {6, 0}, {6, 12}, {0, 0}, {0, 12}, {12, 0}, {12, 12}};
        for (int[] place : places) {
            for (int axis = 0; axis < 3; axis++) {
                dueEdgesAround(axis, 0, place[0], place[1]);
                dueEdgesAround(axis, 11, place[0], place[1]);
            }
        }
    }

    private static void anEdgeHasOneOrThreeOrTwoOppositeCells() {
        CHECK.sentence("A line is an EDGE of a solid when of these one, or three, or just two opposite ones are its own");
        for (int axis = 0; axis < 3; axis++) {
            dueEdgesAround(axis, 5, 6, 6);
        }
        for (int pattern = 1; pattern < 16; pattern++) {
            for (int axis = 0; axis < 3; axis++) {
                HewnSolids x = Hew.ofAllBut(around(axis, 5, 6, 6, pattern));
                due("all but pattern " + pattern, 144 + edgesOf(pattern), x.edges(0));
            }
        }
        due("no cell at all", 0, new HewnSolids().edges(0));
    }

    private static void dueEdgesAround(int axis, int along, int u, int v) {
        for (int pattern = 1; pattern < 16; pattern++) {
            int[][] cells = around(axis, along, u, v, pattern);
            boolean within = true;
            for (int[] c : cells) {
                within &= Hew.isCell(c);
            }
            if (within) {
                due("pattern " + pattern + " at " + u + ", " + v + " along " + axis, edgesOf(pattern),
                        Hew.ofCells(cells).edges(0));
            }
        }
    }

    /** Those of the four cells around a line that a pattern's bits name. */
    private static int[][] around(int axis, int along, int u, int v, int pattern) {
        List<int[]> cells = new ArrayList<>();
        for (int i = 0; i < 4; i++) {
            if ((pattern >> i & 1) == 1) {
                cells.add(Hew.place(axis, along, u - (i & 1), v - (i >> 1)));
            }
        }
        return cells.toArray(new int[0][]);
    }

    private static int edgesOf(int pattern) {
        boolean opposite = pattern == 0b1001 || pattern == 0b0110;
        return switch (Integer.bitCount(pattern)) {
            case 1 -> 12;
            case 2 -> opposite ? 12 + 12 - 1 : 4 * (2 + 1 + 1);
            case 3 -> 2 * 8 + 6;
            default -> 4 * (2 + 2 + 1);
        };
    }

    private static void aViewIsFromBelowOrAbove() {
        CHECK.sentence("A VIEW is along an axis, from below (so that lesser coordinates are nearer) or from above");
        for (int axis = 0; axis < 3; axis++) {
            HewnSolids x = Hew.ofCells(Hew.place(axis, 2, 4, 7), Hew.place(axis, 8, 4, 7));
            due("from below along " + axis, 2, x.depth(0, axis, false, 4, 7));
            due("from above along " + axis, 3, x.depth(0, axis, true, 4, 7));
        }
    }

    private static void columnsAre0To11() {
        CHECK.sentence("It has COLUMNS (u, v), each 0 .. 11");
        for (int axis = 0; axis < 3; axis++) {
            int along = axis;
            REFUSED.dueBeyond(0, 11, "depth along " + axis + " at n, 11", HewnSolids.BAD,
                    (x, n) -> x.depth(0, along, false, n, 11));
            REFUSED.dueBeyond(0, 11, "depth along " + axis + " at 11, n", HewnSolids.BAD,
                    (x, n) -> x.depth(0, along, true, 11, n));
        }
    }

    private static void theLesserAxisComesFirst() {
        CHECK.sentence("the cells whose two other coordinates, the one of the lesser axis first, are u and v");
        int[][] columns = {{4, 7}, {1, 7}, {1, 4}};
        int[] below = {1, 4, 7};
        for (int axis = 0; axis < 3; axis++) {
            HewnSolids x = Hew.ofCells(new int[] {1, 4, 7});
            for (int u = 0; u <= 11; u++) {
                for (int v = 0; v <= 11; v++) {
                    boolean itsColumn = u == columns[axis][0] && v == columns[axis][1];
                    due("depth along " + axis + " at " + u + ", " + v, itsColumn ? below[axis] : 12,
                            x.depth(0, axis, false, u, v));
                    due("depth from above along " + axis + " at " + u + ", " + v, itsColumn ? 11 - below[axis] : 12,
                            x.depth(0, axis, true, u, v));
                }
            }
        }
    }

    private static void depthIsWhatLiesBefore() {
        CHECK.sentence("how many cells of it (from above, from 11 down) lie before the first one of the solid");
        for (int axis = 0; axis < 3; axis++) {
            for (int c = 0; c <= 11; c++) {
                HewnSolids x = Hew.ofCells(Hew.place(axis, c, 11, 0));
                due("from below, at " + c, c, x.depth(0, axis, false, 11, 0));
                due("from above, at " + c, 11 - c, x.depth(0, axis, true, 11, 0));
            }
        }
    }

    private static void depthIs12WithoutACell() {
        CHECK.sentence("12 if there is none");
        for (int axis = 0; axis < 3; axis++) {
            HewnSolids x = Hew.ofAllBut();
            x.box(1, axis == 0 ? 0 : 5, axis == 1 ? 0 : 5, axis == 2 ? 0 : 5,
                    axis == 0 ? 12 : 1, axis == 1 ? 12 : 1, axis == 2 ? 12 : 1);
            x.join(0, 0, 1, 2);
            for (boolean above : new boolean[] {false, true}) {
                due("a shaft through all cells along " + axis, 12, x.depth(0, axis, above, 5, 5));
                due("beside the shaft along " + axis, 0, x.depth(0, axis, above, 5, 6));
                due("an empty solid along " + axis, 12, x.depth(3, axis, above, 5, 5));
            }
        }
    }

    private static void strokesAreAt0To12() {
        CHECK.sentence("Between columns (u - 1, v) and (u, v), for u = 0 .. 12 ...; likewise between (u, v - 1) and (u, v)");
        for (int i = 0; i < 3; i++) {
            int axis = i;
            REFUSED.dueBeyond(0, 12, "stroke along " + axis + " at n, 11 across 0", HewnSolids.BAD,
                    (x, n) -> x.stroke(0, axis, false, n, 11, 0));
            REFUSED.dueBeyond(0, 12, "stroke along " + axis + " at 11, n across 1", HewnSolids.BAD,
                    (x, n) -> x.stroke(0, axis, true, 11, n, 1));
            for (int at = 0; at <= 11; at++) {
                HewnSolids x = Hew.ofCells(Hew.place(axis, 3, at, 6));
                due("strokes around a column at u = " + at, 4, x.strokes(0, axis, false, 2));
                for (int u = 0; u <= 12; u++) {
                    due("across 0 at u = " + u, u == at || u == at + 1 ? 2 : 0, x.stroke(0, axis, false, u, 6, 0));
                }
                x = Hew.ofCells(Hew.place(axis, 3, 6, at));
                due("strokes around a column at v = " + at, 4, x.strokes(0, axis, true, 2));
                for (int v = 0; v <= 12; v++) {
                    due("across 1 at v = " + v, v == at || v == at + 1 ? 2 : 0, x.stroke(0, axis, true, 6, v, 1));
                }
            }
        }
    }

    private static void theDepthOutsideIs12() {
        CHECK.sentence("(the depth of a column outside is 12)");
        for (int axis = 0; axis < 3; axis++) {
            for (boolean above : new boolean[] {false, true}) {
                dueAtBorders("an empty column at the border", 0, new HewnSolids(), axis, above);
                for (int c = 0; c <= 11; c++) {
                    HewnSolids x = Hew.ofCells(Hew.place(axis, c, 0, 0), Hew.place(axis, c, 0, 11),
                            Hew.place(axis, c, 11, 0), Hew.place(axis, c, 11, 11));
                    dueAtBorders("a cell at " + c + " of a column at the border", 2, x, axis, above);
                }
            }
        }
    }

    private static void dueAtBorders(String what, int want, HewnSolids x, int axis, boolean above) {
        for (int other = 0; other <= 11; other += 11) {
            for (int border = 0; border <= 12; border += 12) {
                String where = what + ", " + border + ", " + other + " along " + axis;
                due(where, want, x.stroke(0, axis, above, border, other, 0));
                due(where + " across", want, x.stroke(0, axis, above, other, border, 1));
            }
        }
    }

    private static void aStrokeIsVisibleWhenDepthsDiffer() {
        CHECK.sentence("It is VISIBLE when the depths of the two differ");
        for (int axis = 0; axis < 3; axis++) {
            for (int c = 0; c <= 11; c++) {
                HewnSolids x = Hew.ofCells(Hew.place(axis, c, 5, 5), Hew.place(axis, c, 6, 5));
                due("depths " + c + " and " + c, 0, x.stroke(0, axis, false, 6, 5, 0));
                due("depths " + c + " and 12", 2, x.stroke(0, axis, false, 7, 5, 0));
                due("depths 12 and " + c, 2, x.stroke(0, axis, false, 5, 5, 0));
                due("depths " + c + " and 12, across", 2, x.stroke(0, axis, true, 5, 6, 1));
                due("depths 12 and " + c + ", across", 2, x.stroke(0, axis, true, 5, 5, 1));
            }
            for (int c = 0; c <= 10; c++) {
                HewnSolids x = Hew.ofCells(Hew.place(axis, c, 5, 5), Hew.place(axis, c + 1, 6, 5),
                        Hew.place(axis, c + 1, 5, 6));
                for (boolean above : new boolean[] {false, true}) {
                    due("depths that differ by one, at " + c, 2, x.stroke(0, axis, above, 6, 5, 0));
                    due("depths that differ by one, across, at " + c, 2, x.stroke(0, axis, above, 5, 6, 1));
                }
            }
        }
    }

    private static void aStrokeIsHiddenAtAnyCoordinate() {
        CHECK.sentence("else HIDDEN, when some line that lies there (at any of the 13 coordinates along the view) is an edge");
        for (int axis = 0; axis < 3; axis++) {
            for (boolean above : new boolean[] {false, true}) {
                for (int c = 1; c <= 11; c++) {
                    dueHiddenBehind(axis, above, above ? 11 : 0, above ? 11 - c : c);
                }
            }
        }
    }

    /** Three columns have a cell at the near end; the one in the middle has another one behind it. */
    private static void dueHiddenBehind(int axis, boolean above, int near, int behind) {
        String where = "a cell at " + behind + " behind one at " + near + " along " + axis;
        HewnSolids x = Hew.ofCells(Hew.place(axis, near, 5, 5), Hew.place(axis, near, 6, 5),
                Hew.place(axis, near, 7, 5), Hew.place(axis, behind, 6, 5));
        due(where, 1, x.stroke(0, axis, above, 6, 5, 0));
        due(where + ", other end", 1, x.stroke(0, axis, above, 7, 5, 0));
        due(where + ", in all", 2, x.strokes(0, axis, above, 1));
        due(where + ", seen from the other side", 2, x.stroke(0, axis, !above, 6, 5, 0));
        x = Hew.ofCells(Hew.place(axis, near, 5, 5), Hew.place(axis, near, 5, 6),
                Hew.place(axis, near, 5, 7), Hew.place(axis, behind, 5, 6));
        due(where + ", across", 1, x.stroke(0, axis, above, 5, 6, 1));
        due(where + ", across, other end", 1, x.stroke(0, axis, above, 5, 7, 1));
        due(where + ", across, in all", 2, x.strokes(0, axis, above, 1));
    }

    private static void aStrokeNeedsALineThatLiesThere() {
        CHECK.sentence("some line that lies there, across the axis of the view, is an edge; else there is none");
        for (int axis = 0; axis < 3; axis++) {
            // Of 2 x 2 columns, that at (6, 5) alone has no second cell: the line along the view in their midst is an edge.
            HewnSolids x = Hew.ofCells(
                    Hew.place(axis, 0, 5, 5), Hew.place(axis, 0, 6, 5), Hew.place(axis, 0, 5, 6), Hew.place(axis, 0, 6, 6),
                    Hew.place(axis, 4, 5, 5), Hew.place(axis, 4, 5, 6), Hew.place(axis, 4, 6, 6));
            due("beside the gap", 1, x.stroke(0, axis, false, 6, 5, 0));
            due("beside the gap, across", 1, x.stroke(0, axis, false, 6, 6, 1));
            due("farther on", 0, x.stroke(0, axis, false, 6, 6, 0));
            due("farther on, across", 0, x.stroke(0, axis, false, 5, 6, 1));
            due("hidden in all", 2, x.strokes(0, axis, false, 1));
            due("visible in all", 8, x.strokes(0, axis, false, 2));
        }
    }

    private static void noMeansThatTheSolidStays() {
        CHECK.sentence("NO = -2: It can't be done so: the solid stays, and it is no step");
        due("the constant", -2, HewnSolids.NO);
        Scene[] withBox = {Scene.MIDST, Scene.FULL, Scene.BACK};
        REFUSED.due("box(0, 0, 0, 0, 13, 1, 1)", -2, x -> x.box(0, 0, 0, 0, 13, 1, 1));
        REFUSED.due("sweep(0, 1, 0, 0, 1, 0)", -2, x -> x.sweep(0, 1, 0, 0, 1, 0));
        REFUSED.dueIn(withBox, "shift(0, 9, 0, 0)", -2, x -> x.shift(0, 9, 0, 0));
    }
}
