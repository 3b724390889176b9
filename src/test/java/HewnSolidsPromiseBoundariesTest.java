/** The sentences of promises 1 to 22 that name a boundary case, a test each. */
public final class HewnSolidsPromiseBoundariesTest {
    private static final int BAD = HewnSolids.BAD;
    private static final int NO = HewnSolids.NO;
    private static final int MOST = Integer.MAX_VALUE;
    private static final int LEAST = Integer.MIN_VALUE;
    private static final Scene[] WITH_BOX = {Scene.MIDST, Scene.FULL, Scene.BACK};

    private static final Check CHECK = new Check();
    private static final Refusals REFUSED = new Refusals(CHECK);

    public static void main(String[] args) {
        promise1AllSolidsEmpty();
        promise1NoSteps();
        promise2BadSolid();
        promise2NoIsBehindBad();
        promise2LessThanOne();
        promise2NotInTheCube();
        promise2AnyInts();
        promise3PerhapsAOrBItself();
        promise3BadSolidOrHow();
        promise4TurnsTheCornersToo();
        promise4Bad();
        promise5MirrorsTheBorders();
        promise5Bad();
        promise6BadSolid();
        promise6ACellWouldLeave();
        promise6AnyCellThatWouldLeave();
        promise6AnEmptyOne();
        promise7FromTo();
        promise7BadSolidAxisOrAt();
        promise7FromMoreThanTo();
        promise7NotZeroToEleven();
        promise8AsItWasBefore();
        promise8NoneKept();
        promise9DoneAgain();
        promise9NoneTakenBack();
        promises10To14Bad();
        promise10Volume();
        promise14NoHollowsOfAnEmptyOne();
        promise15Moment();
        promise15Bad();
        promise16TwelveWhenItHasNone();
        promise16Bad();
        promise17NeverOneAtTheBorder();
        promise17AllEightOrNone();
        promise17BadIsMinus9();
        promise18Section();
        promise18Bad();
        promise19OneTwice();
        promise19AllCellsCount();
        promise19NoSuchSolid();
        promise20Bad();
        promise21Bad();
        promise21TheOtherOneIs0To11();
        promise22Strokes();
        promise22Bad();
        CHECK.finish();
    }

    private static void due(String call, int want, int got) {
        CHECK.due(call, want, got);
    }

    private static int number(boolean answer) {
        return answer ? 1 : 0;
    }

    private static void promise1AllSolidsEmpty() {
        CHECK.sentence("1: All solids empty");
        HewnSolids x = new HewnSolids();
        for (int s = 0; s <= 5; s++) {
            due("volume", 0, x.volume(s));
            due("sides", 0, x.sides(s));
            due("edges", 0, x.edges(s));
            due("pieces", 0, x.pieces(s));
            due("hollows", 0, x.hollows(s));
            due("inside", -1, x.inside(s, 6, 6, 6));
            due("same", 1, number(x.same(s, 5 - s)));
            for (int axis = 0; axis < 3; axis++) {
                due("moment", 0, x.moment(s, axis));
                due("extent", 12, x.extent(s, axis, 0));
                due("section", 0, x.section(s, axis, 6));
                due("depth", 12, x.depth(s, axis, false, 6, 6));
                due("stroke", 0, x.stroke(s, axis, false, 6, 6, 0));
                due("visible strokes", 0, x.strokes(s, axis, true, 2));
                due("hidden strokes", 0, x.strokes(s, axis, true, 1));
            }
        }
    }

    private static void promise1NoSteps() {
        CHECK.sentence("1: no steps");
        due("undo", NO, new HewnSolids().undo());
        due("redo", NO, new HewnSolids().redo());
        HewnSolids used = Scene.MIDST.make();
        due("undo of a new one beside one that was used", NO, new HewnSolids().undo());
        due("redo of a new one beside one that was used", NO, new HewnSolids().redo());
        CHECK.due("the one that was used stays", true, Scene.MIDST.isStillIn(used));
    }

    private static void promise2BadSolid() {
        CHECK.sentence("2: BAD when there is no such solid");
        REFUSED.dueBeyond(0, 5, "box(n, 1, 2, 3, 4, 5, 6)", BAD, (x, n) -> x.box(n, 1, 2, 3, 4, 5, 6));
    }

    private static void promise2NoIsBehindBad() {
        CHECK.sentence("2: NO, behind that");
        REFUSED.refusedBeyond(0, 5, "box(n, 0, 0, 0, 0, 1, 1)", BAD, (x, n) -> x.box(n, 0, 0, 0, 0, 1, 1));
        REFUSED.refusedBeyond(0, 5, "box(n, 12, 0, 0, 1, 1, 1)", BAD, (x, n) -> x.box(n, 12, 0, 0, 1, 1, 1));
        for (int s : new int[] {0, 5}) {
            REFUSED.due("box(" + s + ", 0, 0, 0, 0, 1, 1)", NO, x -> x.box(s, 0, 0, 0, 0, 1, 1));
            REFUSED.due("box(" + s + ", 12, 0, 0, 1, 1, 1)", NO, x -> x.box(s, 12, 0, 0, 1, 1, 1));
        }
    }

    /** A box with a start and a length along one axis, and 2 cells from 3 on along the others. */
    private static int boxAlong(HewnSolids x, int axis, int start, int length) {
        return x.box(0, axis == 0 ? start : 3, axis == 1 ? start : 3, axis == 2 ? start : 3,
                axis == 0 ? length : 2, axis == 1 ? length : 2, axis == 2 ? length : 2);
    }

    private static void promise2LessThanOne() {
        CHECK.sentence("2: NO when w, d or h is less than 1");
        for (int i = 0; i < 3; i++) {
            int axis = i;
            due("length 1 along " + axis, 4, boxAlong(Scene.MIDST.make(), axis, 3, 1));
            for (int length : new int[] {0, -1, -3, -4, LEAST, LEAST + 1}) {
                REFUSED.due("length " + length + " along " + axis, NO, x -> boxAlong(x, axis, 3, length));
            }
        }
    }

    private static void promise2NotInTheCube() {
        CHECK.sentence("2: NO when the box is not in the cube");
        for (int i = 0; i < 3; i++) {
            int axis = i;
            for (int start = 0; start <= 11; start++) {
                int from = start;
                int longest = 12 - start;
                HewnSolids x = Scene.MIDST.make();
                due("the longest box", 4 * longest, boxAlong(x, axis, start, longest));
                due("from", start, x.extent(0, axis, 0));
                due("to", 11, x.extent(0, axis, 1));
                REFUSED.due("one more from " + start, NO, y -> boxAlong(y, axis, from, longest + 1));
            }
            for (int length : new int[] {1, 2, 12, 13}) {
                REFUSED.due(length + " from -1 along " + axis, NO, x -> boxAlong(x, axis, -1, length));
                REFUSED.due(length + " from 12 along " + axis, NO, x -> boxAlong(x, axis, 12, length));
            }
        }
    }

    private static void promise2AnyInts() {
        CHECK.sentence("2: (any ints)");
        int[][] stretches = {{0, MOST}, {1, MOST}, {11, MOST}, {MOST, 1}, {MOST, MOST}, {LEAST, LEAST}, {LEAST, MOST},
            {MOST, LEAST}, {LEAST, 1}, {-5, 6}, {-MOST, MOST}, {LEAST + 1, MOST}, {-MOST + 11, MOST}, {256, 1},
            {0, 65537}};
        for (int i = 0; i < 3; i++) {
            int axis = i;
            for (int[] stretch : stretches) {
                REFUSED.due(stretch[1] + " from " + stretch[0] + " along " + axis, NO,
                        x -> boxAlong(x, axis, stretch[0], stretch[1]));
            }
        }
    }

    private static void promise3PerhapsAOrBItself() {
        CHECK.sentence("3: the solid (perhaps a or b itself, as it was)");
        int[] cells = {10 + 12 - 4, 4, 10 - 4, 10 + 12 - 8};
        int[] cellsOfOneTwice = {10, 10, 0, 0};
        for (int how = 0; how <= 3; how++) {
            for (int s = 0; s <= 1; s++) {
                HewnSolids x = new HewnSolids();
                x.box(0, 0, 0, 0, 5, 2, 1);
                x.box(1, 3, 0, 0, 3, 2, 2);
                due("elsewhere, how " + how, cells[how], x.join(2, 0, 1, how));
                due("into " + s + ", how " + how, cells[how], x.join(s, 0, 1, how));
                CHECK.due("they are the same, how " + how, true, x.same(s, 2));
            }
            HewnSolids x = new HewnSolids();
            x.box(0, 0, 0, 0, 5, 2, 1);
            due("of one twice, how " + how, cellsOfOneTwice[how], x.join(1, 0, 0, how));
            due("of one twice into it, how " + how, cellsOfOneTwice[how], x.join(0, 0, 0, how));
            CHECK.due("of one twice, they are the same, how " + how, true, x.same(0, 1));
        }
    }

    private static void promise3BadSolidOrHow() {
        CHECK.sentence("3: BAD when there is no such solid or how");
        REFUSED.dueBeyond(0, 5, "join(n, 0, 1, 0)", BAD, (x, n) -> x.join(n, 0, 1, 0));
        REFUSED.dueBeyond(0, 5, "join(0, n, 1, 0)", BAD, (x, n) -> x.join(0, n, 1, 0));
        REFUSED.dueBeyond(0, 5, "join(0, 1, n, 0)", BAD, (x, n) -> x.join(0, 1, n, 0));
        REFUSED.dueBeyond(0, 3, "join(0, 1, 2, n)", BAD, (x, n) -> x.join(0, 1, 2, n));
    }

    private static void promise4TurnsTheCornersToo() {
        CHECK.sentence("4: y' = 11 - z, z' = y; z' = 11 - x, x' = z; x' = 11 - y, y' = x");
        for (int[] c : Hew.cellsNearTheBorder()) {
            dueTurned(c, 0, new int[] {c[0], 11 - c[2], c[1]});
            dueTurned(c, 1, new int[] {c[2], c[1], 11 - c[0]});
            dueTurned(c, 2, new int[] {11 - c[1], c[0], c[2]});
        }
        for (int axis = 0; axis < 3; axis++) {
            due("a whole one around " + axis, 1728, Hew.ofAllBut().turn(0, axis));
            due("an empty one around " + axis, 0, new HewnSolids().turn(0, axis));
        }
    }

    private static void dueTurned(int[] c, int axis, int[] want) {
        HewnSolids x = Hew.ofCells(c);
        due("one cell around " + axis, 1, x.turn(0, axis));
        Hew.cell(x, 1, want);
        CHECK.due("where it comes to around " + axis, true, x.same(0, 1));
    }

    private static void promise4Bad() {
        CHECK.sentence("4: BAD");
        REFUSED.dueBeyond(0, 5, "turn(n, 0)", BAD, (x, n) -> x.turn(n, 0));
        REFUSED.dueBeyond(0, 2, "turn(0, n)", BAD, (x, n) -> x.turn(0, n));
    }

    private static void promise5MirrorsTheBorders() {
        CHECK.sentence("5: coordinate c becomes 11 - c");
        for (int axis = 0; axis < 3; axis++) {
            for (int c = 0; c <= 11; c++) {
                HewnSolids x = Hew.ofCells(Hew.place(axis, c, 2, 7));
                due("one cell along " + axis, 1, x.mirror(0, axis));
                Hew.cell(x, 1, Hew.place(axis, 11 - c, 2, 7));
                CHECK.due("where it comes to along " + axis, true, x.same(0, 1));
            }
            due("a whole one along " + axis, 1728, Hew.ofAllBut().mirror(0, axis));
            due("an empty one along " + axis, 0, new HewnSolids().mirror(0, axis));
        }
    }

    private static void promise5Bad() {
        CHECK.sentence("5: BAD");
        REFUSED.dueBeyond(0, 5, "mirror(n, 0)", BAD, (x, n) -> x.mirror(n, 0));
        REFUSED.dueBeyond(0, 2, "mirror(0, n)", BAD, (x, n) -> x.mirror(0, n));
    }

    private static int shiftAlong(HewnSolids x, int s, int axis, int by) {
        return x.shift(s, axis == 0 ? by : 0, axis == 1 ? by : 0, axis == 2 ? by : 0);
    }

    private static void promise6BadSolid() {
        CHECK.sentence("6: BAD when there is no such solid");
        REFUSED.dueBeyond(0, 5, "shift(n, 0, 0, 0)", BAD, (x, n) -> x.shift(n, 0, 0, 0));
        REFUSED.refusedBeyond(0, 5, "shift(n, 12, 0, 0)", BAD, (x, n) -> x.shift(n, 12, 0, 0));
    }

    private static void promise6ACellWouldLeave() {
        CHECK.sentence("6: NO when a cell would leave the cube");
        for (int i = 0; i < 3; i++) {
            int axis = i;
            // Solid 0 of the scenes is from 2 + axis to 3 + axis along each axis.
            int down = -(2 + axis);
            int up = 8 - axis;
            for (int by : new int[] {down, down + 1, up - 1, up}) {
                HewnSolids x = Scene.MIDST.make();
                due("by " + by + " along " + axis, 8, shiftAlong(x, 0, axis, by));
                due("its new place", 2 + axis + by, x.extent(0, axis, 0));
                due("it is a step", 0, x.undo());
                due("its old place", 2 + axis, x.extent(0, axis, 0));
            }
            int[] away = {down - 1, up + 1, -11, 11, -12, 12, 32, -32, 64, 256, LEAST, LEAST + 1, MOST, MOST - 1};
            for (int by : away) {
                REFUSED.dueIn(WITH_BOX, "by " + by + " along " + axis, NO, x -> shiftAlong(x, 0, axis, by));
            }
        }
        REFUSED.dueIn(WITH_BOX, "by 1, 1, 7", NO, x -> x.shift(0, 1, 1, 7));
        REFUSED.dueIn(WITH_BOX, "by 1, -4, 1", NO, x -> x.shift(0, 1, -4, 1));
        REFUSED.dueIn(WITH_BOX, "by 9, 1, 1", NO, x -> x.shift(0, 9, 1, 1));
        due("by 8, 7, 6", 8, Scene.MIDST.make().shift(0, 8, 7, 6));
        due("by -2, -3, -4", 8, Scene.MIDST.make().shift(0, -2, -3, -4));
    }

    private static void promise6AnyCellThatWouldLeave() {
        CHECK.sentence("6: NO when a cell would leave the cube (any one of them)");
        for (int axis = 0; axis < 3; axis++) {
            for (int c = 0; c <= 11; c++) {
                for (int by = -13; by <= 13; by++) {
                    boolean stays = c + by >= 0 && c + by <= 11;
                    HewnSolids x = Hew.ofCells(Hew.place(axis, c, 6, 3));
                    due("a cell at " + c + " by " + by, stays ? 1 : NO, shiftAlong(x, 0, axis, by));
                    due("where it is then", stays ? c + by : c, x.extent(0, axis, 0));
                }
            }
            for (int by : new int[] {-1, 1}) {
                HewnSolids x = Hew.ofCells(Hew.place(axis, 0, 6, 3), Hew.place(axis, 11, 3, 6));
                due("cells at both ends by " + by, NO, shiftAlong(x, 0, axis, by));
                due("by nothing", 2, shiftAlong(x, 0, axis, 0));
            }
        }
    }

    private static void promise6AnEmptyOne() {
        CHECK.sentence("6: (an empty one may be shifted by anything)");
        for (int by : new int[] {0, 1, -1, 11, 12, -12, 13, 32, -32, MOST, LEAST, LEAST + 1}) {
            for (int axis = 0; axis < 3; axis++) {
                HewnSolids x = Scene.FULL.make();
                due("by " + by + " along " + axis, 0, shiftAlong(x, 5, axis, by));
                due("it stays empty", 0, x.volume(5));
                due("the others stay", 8, x.volume(0));
                due("it is a step", 5, x.undo());
                due("only one", 4, x.undo());
            }
        }
        due("by anything along all", 0, new HewnSolids().shift(0, LEAST, MOST, -100));
    }

    private static void promise7FromTo() {
        CHECK.sentence("7: all cells whose coordinate along an axis is from .. to ... a cell of a at coordinate at");
        for (int axis = 0; axis < 3; axis++) {
            for (int at : new int[] {0, 5, 11}) {
                HewnSolids x = Hew.ofCells(Hew.place(axis, at, 0, 11), Hew.place(axis, 11 - at, 11, 0));
                int[][] stretches = {{0, 0}, {11, 11}, {0, 11}, {4, 4}, {4, 5}, {1, 10}};
                for (int[] stretch : stretches) {
                    int length = stretch[1] - stretch[0] + 1;
                    due("cells at " + at + " along " + axis, length,
                            x.sweep(1, 0, axis, at, stretch[0], stretch[1]));
                    due("from", stretch[0], x.extent(1, axis, 0));
                    due("to", stretch[1], x.extent(1, axis, 1));
                    due("in its column", stretch[0], x.depth(1, axis, false, 0, 11));
                    due("not in the other one", 12, x.depth(1, axis, false, 11, 0));
                }
                due("no cell there", 0, x.sweep(1, 0, axis, at == 5 ? 4 : 5, 0, 11));
                due("onto itself", 12, x.sweep(0, 0, axis, at, 0, 11));
            }
        }
    }

    private static void promise7BadSolidAxisOrAt() {
        CHECK.sentence("7: BAD when there is no such solid, axis, or at");
        REFUSED.dueBeyond(0, 5, "sweep(n, 1, 0, 0, 0, 1)", BAD, (x, n) -> x.sweep(n, 1, 0, 0, 0, 1));
        REFUSED.dueBeyond(0, 5, "sweep(0, n, 0, 0, 0, 1)", BAD, (x, n) -> x.sweep(0, n, 0, 0, 0, 1));
        REFUSED.dueBeyond(0, 2, "sweep(0, 1, n, 0, 0, 1)", BAD, (x, n) -> x.sweep(0, 1, n, 0, 0, 1));
        for (int i = 0; i < 3; i++) {
            int axis = i;
            REFUSED.dueBeyond(0, 11, "sweep(0, 1, " + axis + ", n, 0, 1)", BAD,
                    (x, n) -> x.sweep(0, 1, axis, n, 0, 1));
        }
        REFUSED.refusedBeyond(0, 11, "sweep(0, 1, 2, n, 1, 0)", BAD, (x, n) -> x.sweep(0, 1, 2, n, 1, 0));
    }

    private static void promise7FromMoreThanTo() {
        CHECK.sentence("7: NO when from is more than to");
        for (int i = 0; i <= 11; i++) {
            int to = i;
            HewnSolids x = Scene.MIDST.make();
            due("from " + to + " to " + to, 4, x.sweep(3, 0, 2, 4, to, to));
            due("it is a step", 3, x.undo());
            REFUSED.due("from " + (to + 1) + " to " + to, NO, y -> y.sweep(3, 0, 2, 4, to + 1, to));
        }
        REFUSED.due("from 11 to 0", NO, x -> x.sweep(3, 0, 0, 2, 11, 0));
        REFUSED.due("from the most to the least", NO, x -> x.sweep(3, 0, 1, 3, MOST, LEAST));
    }

    private static void promise7NotZeroToEleven() {
        CHECK.sentence("7: NO when they are not 0 .. 11");
        for (int i = 0; i < 3; i++) {
            int axis = i;
            due("from 0 to 11", 12 * 4, Scene.MIDST.make().sweep(3, 0, axis, 2 + axis, 0, 11));
            int[][] stretches = {{-1, 11}, {0, 12}, {-1, 12}, {-1, -1}, {12, 12}, {-2, -1}, {12, 13}, {LEAST, MOST},
                {LEAST, 0}, {11, MOST}, {LEAST, LEAST}, {MOST, MOST}, {0, 256}, {-256, 11}};
            for (int[] stretch : stretches) {
                REFUSED.due("from " + stretch[0] + " to " + stretch[1], NO,
                        x -> x.sweep(3, 0, axis, 2 + axis, stretch[0], stretch[1]));
            }
        }
    }

    private static void promise8AsItWasBefore() {
        CHECK.sentence("8: its solid (its number), which is as it was before");
        for (int s = 0; s <= 5; s++) {
            HewnSolids x = new HewnSolids();
            int other = (s + 1) % 6;
            int kept = (s + 2) % 6;
            x.box(kept, 1, 2, 3, 4, 5, 6);
            x.join(s, kept, kept, 0);
            x.box(other, 0, 0, 0, 1, 1, 1);
            x.turn(s, 0);
            CHECK.due("before undo", false, x.same(s, kept));
            due("undo", s, x.undo());
            CHECK.due("as it was before", true, x.same(s, kept));
            due("the other one's step", other, x.undo());
            CHECK.due("does not touch it", true, x.same(s, kept));
            due("undo of its first step", s, x.undo());
            due("it is empty as before", 0, x.volume(s));
        }
    }

    private static void promise8NoneKept() {
        CHECK.sentence("8: NO when none is kept (12 at most)");
        REFUSED.dueIn(new Scene[] {Scene.NEW, Scene.BACK}, "undo()", NO, HewnSolids::undo);
        HewnSolids x = Scene.FULL.make();
        for (int kept = 12; kept >= 1; kept--) {
            CHECK.due("with " + kept + " kept", true, x.undo() >= 0);
        }
        due("with none kept", NO, x.undo());
        due("with none kept, again", NO, x.undo());
        for (int back = 12; back >= 1; back--) {
            CHECK.due("what was taken back stays so, " + back, true, x.redo() >= 0);
        }
        CHECK.due("all are done again", true, Scene.FULL.isStillIn(x));
        x = new HewnSolids();
        x.box(5, 0, 0, 0, 1, 1, 1);
        due("with one kept", 5, x.undo());
        due("with none kept", NO, x.undo());
    }

    private static void promise9DoneAgain() {
        CHECK.sentence("9: The latest step that was taken back is done again: its solid");
        HewnSolids x = new HewnSolids();
        for (int s = 0; s <= 5; s++) {
            x.box(s, s, 0, 0, 1, s + 1, 1);
        }
        for (int s = 5; s >= 0; s--) {
            due("undo", s, x.undo());
        }
        for (int s = 0; s <= 5; s++) {
            due("redo", s, x.redo());
            due("it is as the step made it", s + 1, x.volume(s));
            due("where the step made it", s, x.extent(s, 0, 0));
            for (int later = s + 1; later <= 5; later++) {
                due("those behind it wait", 0, x.volume(later));
            }
        }
    }

    private static void promise9NoneTakenBack() {
        CHECK.sentence("9: NO when there is none");
        REFUSED.dueIn(new Scene[] {Scene.NEW, Scene.FULL}, "redo()", NO, HewnSolids::redo);
        HewnSolids x = Scene.BACK.make();
        for (int back = 12; back >= 1; back--) {
            CHECK.due("with " + back + " taken back", true, x.redo() >= 0);
        }
        due("with none taken back", NO, x.redo());
        due("with none taken back, again", NO, x.redo());
        for (int kept = 12; kept >= 1; kept--) {
            CHECK.due("what is kept stays so, " + kept, true, x.undo() >= 0);
        }
        CHECK.due("all are taken back again", true, Scene.BACK.isStillIn(x));
    }

    private static void promises10To14Bad() {
        CHECK.sentence("10: BAD");
        REFUSED.dueBeyond(0, 5, "volume(n)", BAD, HewnSolids::volume);
        CHECK.sentence("11: BAD");
        REFUSED.dueBeyond(0, 5, "sides(n)", BAD, HewnSolids::sides);
        CHECK.sentence("12: BAD");
        REFUSED.dueBeyond(0, 5, "edges(n)", BAD, HewnSolids::edges);
        CHECK.sentence("13: BAD");
        REFUSED.dueBeyond(0, 5, "pieces(n)", BAD, HewnSolids::pieces);
        CHECK.sentence("14: BAD");
        REFUSED.dueBeyond(0, 5, "hollows(n)", BAD, HewnSolids::hollows);
    }

    private static void promise10Volume() {
        CHECK.sentence("10: How many cells a solid has");
        due("none", 0, new HewnSolids().volume(0));
        due("the first alone", 1, Hew.ofCells(new int[] {0, 0, 0}).volume(0));
        due("the last alone", 1, Hew.ofCells(new int[] {11, 11, 11}).volume(0));
        due("all but the first", 1727, Hew.ofAllBut(new int[] {0, 0, 0}).volume(0));
        due("all", 1728, Hew.ofAllBut().volume(0));
    }

    private static void promise14NoHollowsOfAnEmptyOne() {
        CHECK.sentence("14: (0 of an empty one)");
        HewnSolids x = Hew.ofAllBut(new int[] {5, 5, 5});
        due("one with a hollow", 1, x.hollows(0));
        due("an empty one behind it", 0, x.hollows(1));
        due("cut away", 0, x.join(0, 0, 0, 3));
        due("an empty one that had a hollow", 0, x.hollows(0));
    }

    private static void promise15Moment() {
        CHECK.sentence("15: The sum of 2 c + 1 ... (0 without cells)");
        for (int axis = 0; axis < 3; axis++) {
            due("without cells", 0, new HewnSolids().moment(0, axis));
            due("all cells", 144 * 144, Hew.ofAllBut().moment(0, axis));
            for (int c = 0; c <= 11; c++) {
                int[] cell = Hew.place(axis, c, 0, 11);
                due("a cell at " + c, 2 * c + 1, Hew.ofCells(cell).moment(0, axis));
                due("all but a cell at " + c, 144 * 144 - 2 * c - 1, Hew.ofAllBut(cell).moment(0, axis));
            }
        }
    }

    private static void promise15Bad() {
        CHECK.sentence("15: BAD");
        REFUSED.dueBeyond(0, 5, "moment(n, 0)", BAD, (x, n) -> x.moment(n, 0));
        REFUSED.dueBeyond(0, 2, "moment(0, n)", BAD, (x, n) -> x.moment(0, n));
        REFUSED.refusedBeyond(0, 2, "moment(5, n)", BAD, (x, n) -> x.moment(5, n));
    }

    private static void promise16TwelveWhenItHasNone() {
        CHECK.sentence("16: The least coordinate ... or the greatest; 12 when it has none");
        for (int axis = 0; axis < 3; axis++) {
            due("least of none", 12, new HewnSolids().extent(0, axis, 0));
            due("greatest of none", 12, new HewnSolids().extent(0, axis, 1));
            for (int least = 0; least <= 11; least++) {
                for (int greatest = least; greatest <= 11; greatest++) {
                    HewnSolids x = Hew.ofCells(Hew.place(axis, greatest, 0, 11), Hew.place(axis, least, 11, 0));
                    due("least", least, x.extent(0, axis, 0));
                    due("greatest", greatest, x.extent(0, axis, 1));
                }
            }
        }
    }

    private static void promise16Bad() {
        CHECK.sentence("16: BAD");
        REFUSED.dueBeyond(0, 5, "extent(n, 0, 0)", BAD, (x, n) -> x.extent(n, 0, 0));
        REFUSED.dueBeyond(0, 2, "extent(0, n, 1)", BAD, (x, n) -> x.extent(0, n, 1));
        REFUSED.dueBeyond(0, 1, "extent(0, 0, n)", BAD, (x, n) -> x.extent(0, 0, n));
        REFUSED.refusedBeyond(0, 1, "extent(5, 0, n) of an empty one", BAD, (x, n) -> x.extent(5, 0, n));
    }

    private static void promise17NeverOneAtTheBorder() {
        CHECK.sentence("17: (of those outside, none is, so at the border it is never 1)");
        for (int i = 0; i <= 12; i++) {
            HewnSolids x = Hew.ofAllBut();
            for (int j = 0; j <= 12; j++) {
                for (int k = 0; k <= 12; k++) {
                    boolean border = i == 0 || i == 12 || j == 0 || j == 12 || k == 0 || k == 12;
                    due("of a whole one at " + i + ", " + j + ", " + k, border ? 0 : 1, x.inside(0, i, j, k));
                    due("of an empty one at " + i + ", " + j + ", " + k, -1, x.inside(1, i, j, k));
                }
            }
        }
    }

    private static void promise17AllEightOrNone() {
        CHECK.sentence("17: 1 when all eight cells around are the solid's, -1 when none is, 0 otherwise");
        int[][] corners = {{6, 6, 6}, {1, 1, 1}, {11, 11, 11}, {1, 11, 6}};
        for (int[] p : corners) {
            for (int i = 0; i < 8; i++) {
                int[] c = {p[0] - (i & 1), p[1] - (i >> 1 & 1), p[2] - (i >> 2)};
                due("one of eight", 0, Hew.ofCells(c).inside(0, p[0], p[1], p[2]));
                due("seven of eight", 0, Hew.ofAllBut(c).inside(0, p[0], p[1], p[2]));
            }
        }
        for (int i = 0; i < 8; i++) {
            int[] c = {(i & 1) * 11, (i >> 1 & 1) * 11, (i >> 2) * 11};
            int[] p = {(i & 1) * 12, (i >> 1 & 1) * 12, (i >> 2) * 12};
            due("the one within at a corner", 0, Hew.ofCells(c).inside(0, p[0], p[1], p[2]));
            due("all but that one", -1, Hew.ofAllBut(c).inside(0, p[0], p[1], p[2]));
        }
        for (int axis = 0; axis < 3; axis++) {
            HewnSolids x = Hew.ofCells(Hew.place(axis, 5, 5, 5));
            for (int c = 0; c <= 12; c++) {
                int[] p = Hew.place(axis, c, 5, 6);
                due("along " + axis + " at " + c, c == 5 || c == 6 ? 0 : -1, x.inside(0, p[0], p[1], p[2]));
            }
        }
    }

    private static void promise17BadIsMinus9() {
        CHECK.sentence("17: BAD is -9 here: no such solid or point");
        REFUSED.dueBeyond(0, 5, "inside(n, 6, 6, 6)", -9, (x, n) -> x.inside(n, 6, 6, 6));
        for (int i = 0; i < 3; i++) {
            int axis = i;
            REFUSED.dueBeyond(0, 12, "inside with n along " + axis, -9, (x, n) -> {
                int[] p = Hew.place(axis, n, 6, 6);
                return x.inside(0, p[0], p[1], p[2]);
            });
        }
    }

    private static void promise18Section() {
        CHECK.sentence("18: How many cells of a solid have a coordinate along an axis");
        for (int axis = 0; axis < 3; axis++) {
            for (int at = 0; at <= 11; at++) {
                int[] cell = Hew.place(axis, at, 11, 0);
                for (int c = 0; c <= 11; c++) {
                    due("a cell at " + at, c == at ? 1 : 0, Hew.ofCells(cell).section(0, axis, c));
                    due("all but a cell at " + at, c == at ? 143 : 144, Hew.ofAllBut(cell).section(0, axis, c));
                }
            }
        }
    }

    private static void promise18Bad() {
        CHECK.sentence("18: BAD when there is none such");
        REFUSED.dueBeyond(0, 5, "section(n, 0, 0)", BAD, (x, n) -> x.section(n, 0, 0));
        REFUSED.dueBeyond(0, 2, "section(0, n, 0)", BAD, (x, n) -> x.section(0, n, 0));
        for (int i = 0; i < 3; i++) {
            int axis = i;
            REFUSED.dueBeyond(0, 11, "section(0, " + axis + ", n)", BAD, (x, n) -> x.section(0, axis, n));
        }
    }

    private static void promise19OneTwice() {
        CHECK.sentence("19: (perhaps one twice: true)");
        for (Scene scene : Scene.values()) {
            HewnSolids x = scene.make();
            for (int s = 0; s <= 5; s++) {
                CHECK.due(scene + " solid " + s, true, x.same(s, s));
            }
        }
    }

    private static void promise19AllCellsCount() {
        CHECK.sentence("19: Whether two solids have the same cells");
        for (int[] c : Hew.cellsNearTheBorder()) {
            HewnSolids x = Hew.ofAllBut(c);
            Hew.whole(x, 1);
            CHECK.due("all but one cell, and all", false, x.same(0, 1));
            CHECK.due("all, and all but one cell", false, x.same(1, 0));
            x.join(2, 1, 0, 2);
            CHECK.due("that cell, and none", false, x.same(2, 3));
            x.join(0, 0, 2, 0);
            CHECK.due("all, and all", true, x.same(0, 1));
        }
        CHECK.due("none, and none", true, new HewnSolids().same(0, 1));
        HewnSolids x = Hew.ofCells(new int[] {0, 0, 11});
        Hew.cell(x, 1, new int[] {0, 1, 0});
        CHECK.due("as many, elsewhere", false, x.same(0, 1));
    }

    private static void promise19NoSuchSolid() {
        CHECK.sentence("19: false when there is no such solid");
        REFUSED.refusedBeyond(0, 5, "same(n, 0)", 0, (x, n) -> number(x.same(n, 0)));
        REFUSED.refusedBeyond(0, 5, "same(0, n)", 0, (x, n) -> number(x.same(0, n)));
        REFUSED.refusedBeyond(0, 5, "same(5, n) of an empty one", 0, (x, n) -> number(x.same(5, n)));
        REFUSED.dueBeyond(0, 5, "same(n, n)", 0, (x, n) -> number(x.same(n, n)));
    }

    private static void promise20Bad() {
        CHECK.sentence("20: BAD when there is none such");
        for (int i = 0; i < 6; i++) {
            int axis = i % 3;
            boolean above = i >= 3;
            String view = axis + ", " + above;
            REFUSED.dueBeyond(0, 5, "depth(n, " + view + ", 0, 0)", BAD, (x, n) -> x.depth(n, axis, above, 0, 0));
            REFUSED.dueBeyond(0, 11, "depth(0, " + view + ", n, 0)", BAD, (x, n) -> x.depth(0, axis, above, n, 0));
            REFUSED.dueBeyond(0, 11, "depth(0, " + view + ", 0, n)", BAD, (x, n) -> x.depth(0, axis, above, 0, n));
        }
        REFUSED.dueBeyond(0, 2, "depth(0, n, false, 0, 0)", BAD, (x, n) -> x.depth(0, n, false, 0, 0));
        REFUSED.dueBeyond(0, 2, "depth(0, n, true, 0, 0)", BAD, (x, n) -> x.depth(0, n, true, 0, 0));
    }

    private static void promise21Bad() {
        CHECK.sentence("21: BAD when there is none such");
        REFUSED.dueBeyond(0, 5, "stroke(n, 0, false, 0, 0, 0)", BAD, (x, n) -> x.stroke(n, 0, false, 0, 0, 0));
        REFUSED.dueBeyond(0, 2, "stroke(0, n, false, 0, 0, 0)", BAD, (x, n) -> x.stroke(0, n, false, 0, 0, 0));
        REFUSED.dueBeyond(0, 1, "stroke(0, 0, false, 0, 0, n)", BAD, (x, n) -> x.stroke(0, 0, false, 0, 0, n));
        REFUSED.dueBeyond(0, 1, "stroke(0, 0, true, 11, 11, n)", BAD, (x, n) -> x.stroke(0, 0, true, 11, 11, n));
    }

    private static void promise21TheOtherOneIs0To11() {
        CHECK.sentence("21: u (across = 1: v) is 0 .. 12, the other one 0 .. 11");
        for (int i = 0; i < 6; i++) {
            int axis = i % 3;
            boolean above = i >= 3;
            String view = "stroke(0, " + axis + ", " + above;
            REFUSED.dueBeyond(0, 12, view + ", n, 0, 0)", BAD, (x, n) -> x.stroke(0, axis, above, n, 0, 0));
            REFUSED.dueBeyond(0, 11, view + ", 12, n, 0)", BAD, (x, n) -> x.stroke(0, axis, above, 12, n, 0));
            REFUSED.dueBeyond(0, 12, view + ", 0, n, 1)", BAD, (x, n) -> x.stroke(0, axis, above, 0, n, 1));
            REFUSED.dueBeyond(0, 11, view + ", n, 12, 1)", BAD, (x, n) -> x.stroke(0, axis, above, n, 12, 1));
        }
    }

    private static void promise22Strokes() {
        CHECK.sentence("22: How many strokes of a view are visible (kind = 2) or hidden (1)");
        for (int axis = 0; axis < 3; axis++) {
            due("of an empty one, visible", 0, new HewnSolids().strokes(0, axis, false, 2));
            due("of an empty one, hidden", 0, new HewnSolids().strokes(0, axis, false, 1));
            HewnSolids x = Hew.ofAllBut();
            due("of a whole one, visible", 48, x.strokes(0, axis, true, 2));
            due("of a whole one, hidden", 0, x.strokes(0, axis, true, 1));
            for (int u = 0; u <= 11; u += 11) {
                for (int v = 0; v <= 11; v += 11) {
                    x = Hew.ofCells(Hew.place(axis, 0, u, v), Hew.place(axis, 11, u, v));
                    due("of a corner column, visible", 4, x.strokes(0, axis, false, 2));
                    due("of a corner column, hidden", 0, x.strokes(0, axis, false, 1));
                    x = Hew.ofAllBut(Hew.place(axis, 0, u, v));
                    due("a corner cell is missing, from its side", 48 + 2, x.strokes(0, axis, false, 2));
                    due("a corner cell is missing, from the other", 48, x.strokes(0, axis, true, 2));
                    due("it is hidden there", 2, x.strokes(0, axis, true, 1));
                }
            }
        }
    }

    private static void promise22Bad() {
        CHECK.sentence("22: BAD");
        REFUSED.dueBeyond(0, 5, "strokes(n, 0, false, 2)", BAD, (x, n) -> x.strokes(n, 0, false, 2));
        REFUSED.dueBeyond(0, 2, "strokes(0, n, true, 1)", BAD, (x, n) -> x.strokes(0, n, true, 1));
        REFUSED.dueBeyond(1, 2, "strokes(0, 0, false, n)", BAD, (x, n) -> x.strokes(0, 0, false, n));
        REFUSED.refusedBeyond(1, 2, "strokes(5, 0, true, n) of an empty one", BAD, (x, n) -> x.strokes(5, 0, true, n));
    }
}
