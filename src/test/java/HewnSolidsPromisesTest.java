/** Each promise of the document, with ordinary inputs, the edges that it names, and wrong inputs. */
public final class HewnSolidsPromisesTest {
    private static final int BAD = HewnSolids.BAD;
    private static final int NO = HewnSolids.NO;
    private static final int MOST = Integer.MAX_VALUE;
    private static final int LEAST = Integer.MIN_VALUE;
    private static final int[] NO_SOLIDS = {-1, 6, MOST, LEAST};
    private static final int[] NO_AXES = {-1, 3, MOST, LEAST};
    private static final int[] NO_COORDINATES = {-1, 12, MOST, LEAST};

    private static final Check CHECK = new Check();

    public static void main(String[] args) {
        constants();
        promise1NewObject();
        promise2Box();
        promise2BoxNotInTheCube();
        promise3Join();
        promise3JoinIntoItsOwnSource();
        promise4Turn();
        promise4TurnFourTimes();
        promise5Mirror();
        promise6Shift();
        promise6ShiftNotInTheCube();
        promise6ShiftOfAnEmptySolid();
        promise7Sweep();
        promise7SweepRefused();
        promise8Undo();
        promise8UndoKeepsTwelve();
        promise8RefusedCallsAreNoSteps();
        promise9Redo();
        promise9RedoGoesWithANewStep();
        promise9RedoOfTwelve();
        promise10Volume();
        promise11Sides();
        promise12Edges();
        promise13Pieces();
        promise14Hollows();
        promise15Moment();
        promise16Extent();
        promise17Inside();
        promise18Section();
        promise19Same();
        promise20Depth();
        promise21Stroke();
        promise21StrokeAtTheBorder();
        promise21StrokeRefused();
        promise22Strokes();
        askingChangesNothing();
        CHECK.finish();
    }

    private static void due(String call, int want, int got) {
        CHECK.due(call, want, got);
    }

    /** Solid 0 has seven cells: from (0, 1, 3) on, two more along x, one along y and three along z. */
    private static HewnSolids withCornerPiece() {
        HewnSolids x = new HewnSolids();
        x.box(0, 0, 1, 3, 3, 1, 1);
        x.box(1, 0, 2, 3, 1, 1, 1);
        x.join(0, 0, 1, 0);
        x.box(1, 0, 1, 4, 1, 1, 3);
        x.join(0, 0, 1, 0);
        return x;
    }

    private static boolean cell(HewnSolids x, int s, int cx, int cy, int cz) {
        // Spare solids 4 and 5 are used: the cell alone, and what it has in common with s.
        x.box(4, cx, cy, cz, 1, 1, 1);
        return x.join(5, 4, s, 1) == 1;
    }

    private static void constants() {
        due("BAD", -1, HewnSolids.BAD);
        due("NO", -2, HewnSolids.NO);
    }

    private static void promise1NewObject() {
        HewnSolids x = new HewnSolids();
        due("1: undo of no step", NO, x.undo());
        due("1: redo of no step", NO, x.redo());
        for (int s = 0; s < 6; s++) {
            due("1: volume", 0, x.volume(s));
            due("1: depth", 12, x.depth(s, 0, false, 0, 0));
        }
        x.box(0, 0, 0, 0, 12, 12, 12);
        HewnSolids other = new HewnSolids();
        due("1: objects have nothing in common", 0, other.volume(0));
        due("1: nor steps", NO, other.undo());
    }

    private static void promise2Box() {
        HewnSolids x = new HewnSolids();
        due("2: ordinary", 60, x.box(0, 2, 3, 4, 5, 4, 3));
        due("2: x from", 2, x.extent(0, 0, 0));
        due("2: x to", 6, x.extent(0, 0, 1));
        due("2: y from", 3, x.extent(0, 1, 0));
        due("2: y to", 6, x.extent(0, 1, 1));
        due("2: z from", 4, x.extent(0, 2, 0));
        due("2: z to", 6, x.extent(0, 2, 1));
        due("2: it becomes the box alone", 1, x.box(0, 0, 0, 0, 1, 1, 1));
        due("2: what was there is gone", 1, x.volume(0));
        due("2: whole cube", 1728, x.box(5, 0, 0, 0, 12, 12, 12));
        due("2: last cell", 1, x.box(5, 11, 11, 11, 1, 1, 1));
        for (int s : NO_SOLIDS) {
            due("2: no solid", BAD, x.box(s, 0, 0, 0, 1, 1, 1));
            due("2: no solid goes before no box", BAD, x.box(s, 0, 0, 0, 0, 13, LEAST));
        }
    }

    private static void promise2BoxNotInTheCube() {
        HewnSolids x = new HewnSolids();
        x.box(0, 1, 1, 1, 2, 2, 2);
        for (int none : new int[] {0, -1, LEAST}) {
            due("2: w", NO, x.box(0, 3, 3, 3, none, 1, 1));
            due("2: d", NO, x.box(0, 3, 3, 3, 1, none, 1));
            due("2: h", NO, x.box(0, 3, 3, 3, 1, 1, none));
        }
        for (int many : new int[] {10, 13, MOST, MOST - 2}) {
            due("2: w too many", NO, x.box(0, 3, 3, 3, many, 1, 1));
            due("2: d too many", NO, x.box(0, 3, 3, 3, 1, many, 1));
            due("2: h too many", NO, x.box(0, 3, 3, 3, 1, 1, many));
        }
        for (int out : NO_COORDINATES) {
            due("2: x out", NO, x.box(0, out, 3, 3, 2, 1, 1));
            due("2: y out", NO, x.box(0, 3, out, 3, 1, 2, 1));
            due("2: z out", NO, x.box(0, 3, 3, out, 1, 1, 2));
            due("2: x out and w too many", NO, x.box(0, out, 3, 3, MOST, 1, 1));
            due("2: z out and h too few", NO, x.box(0, 3, 3, out, 1, 1, LEAST));
        }
        due("2: the solid stays", 8, x.volume(0));
        due("2: one step", 0, x.undo());
        due("2: and no more", NO, x.undo());
    }

    private static void promise3Join() {
        HewnSolids x = new HewnSolids();
        x.box(0, 0, 0, 0, 4, 4, 4);
        x.box(1, 2, 2, 2, 4, 4, 4);
        due("3: in a or in b", 120, x.join(2, 0, 1, 0));
        due("3: in both", 8, x.join(2, 0, 1, 1));
        due("3: in both, least", 2, x.extent(2, 0, 0));
        due("3: in both, greatest", 3, x.extent(2, 2, 1));
        due("3: in a, not in b", 56, x.join(2, 0, 1, 2));
        due("3: in a, not in b, greatest", 3, x.extent(2, 0, 1));
        due("3: in b, not in a", 56, x.join(2, 1, 0, 2));
        due("3: in b, not in a, greatest", 5, x.extent(2, 0, 1));
        due("3: in just one", 112, x.join(2, 0, 1, 3));
        due("3: a stays", 64, x.volume(0));
        due("3: b stays", 64, x.volume(1));
        due("3: with an empty one", 64, x.join(2, 0, 5, 0));
        for (int how : new int[] {-1, 4, MOST, LEAST}) {
            due("3: no how", BAD, x.join(2, 0, 1, how));
        }
        for (int s : NO_SOLIDS) {
            due("3: no s", BAD, x.join(s, 0, 1, 0));
            due("3: no a", BAD, x.join(2, s, 1, 0));
            due("3: no b", BAD, x.join(2, 0, s, 0));
        }
        due("3: the solid stays", 64, x.volume(2));
    }

    private static void promise3JoinIntoItsOwnSource() {
        HewnSolids x = new HewnSolids();
        x.box(0, 0, 0, 0, 4, 4, 4);
        x.box(1, 2, 2, 2, 4, 4, 4);
        due("3: s is a", 56, x.join(0, 0, 1, 2));
        due("3: s is b", 120, x.join(1, 0, 1, 0));
        due("3: s is a and b", 120, x.join(1, 1, 1, 1));
        due("3: just one of twice the same", 0, x.join(1, 1, 1, 3));
        due("3: not in itself", 0, x.join(0, 0, 0, 2));
    }

    private static void promise4Turn() {
        HewnSolids x = new HewnSolids();
        x.box(0, 1, 2, 4, 1, 1, 1);
        due("4: around 0", 1, x.turn(0, 0));
        CHECK.due("4: around 0, cell", true, cell(x, 0, 1, 7, 2));
        x.box(0, 1, 2, 4, 1, 1, 1);
        due("4: around 1", 1, x.turn(0, 1));
        CHECK.due("4: around 1, cell", true, cell(x, 0, 4, 2, 10));
        x.box(0, 1, 2, 4, 1, 1, 1);
        due("4: around 2", 1, x.turn(0, 2));
        CHECK.due("4: around 2, cell", true, cell(x, 0, 9, 1, 4));
        due("4: an empty one", 0, x.turn(3, 1));
        due("4: it was a step", 3, x.undo());
        for (int s : NO_SOLIDS) {
            due("4: no solid", BAD, x.turn(s, 0));
        }
        for (int axis : NO_AXES) {
            due("4: no axis", BAD, x.turn(0, axis));
        }
    }

    private static void promise4TurnFourTimes() {
        for (int axis = 0; axis < 3; axis++) {
            HewnSolids x = withCornerPiece();
            x.join(1, 0, 0, 0);
            for (int i = 1; i <= 4; i++) {
                due("4: cells", 7, x.turn(1, axis));
                CHECK.due("4: after " + i + " quarters around " + axis, i == 4, x.same(0, 1));
            }
        }
    }

    private static void promise5Mirror() {
        for (int axis = 0; axis < 3; axis++) {
            HewnSolids x = new HewnSolids();
            x.box(0, 1, 2, 4, 2, 2, 2);
            due("5: cells", 8, x.mirror(0, axis));
            due("5: x", axis == 0 ? 9 : 1, x.extent(0, 0, 0));
            due("5: y", axis == 1 ? 8 : 2, x.extent(0, 1, 0));
            due("5: z", axis == 2 ? 6 : 4, x.extent(0, 2, 0));
            x = withCornerPiece();
            x.join(1, 0, 0, 0);
            due("5: once", 7, x.mirror(1, axis));
            CHECK.due("5: once is another", false, x.same(0, 1));
            due("5: twice", 7, x.mirror(1, axis));
            CHECK.due("5: twice is the same", true, x.same(0, 1));
        }
        HewnSolids x = new HewnSolids();
        x.box(0, 0, 0, 0, 1, 1, 1);
        for (int axis = 0; axis < 3; axis++) {
            due("5: a corner cell", 1, x.mirror(0, axis));
            for (int other = 0; other < 3; other++) {
                due("5: to the next corner", other <= axis ? 11 : 0, x.extent(0, other, 0));
            }
        }
        due("5: an empty one", 0, x.mirror(2, 0));
        due("5: it was a step", 2, x.undo());
        for (int s : NO_SOLIDS) {
            due("5: no solid", BAD, x.mirror(s, 0));
        }
        for (int axis : NO_AXES) {
            due("5: no axis", BAD, x.mirror(0, axis));
        }
    }

    private static void promise6Shift() {
        HewnSolids x = new HewnSolids();
        x.box(0, 2, 3, 4, 2, 2, 2);
        due("6: by its own", 8, x.shift(0, 1, -2, 3));
        due("6: x", 3, x.extent(0, 0, 0));
        due("6: y", 1, x.extent(0, 1, 0));
        due("6: z", 7, x.extent(0, 2, 0));
        due("6: to the least corner", 8, x.shift(0, -3, -1, -7));
        due("6: to the greatest corner", 8, x.shift(0, 10, 10, 10));
        due("6: there", 10, x.extent(0, 2, 0));
        due("6: by nothing", 8, x.shift(0, 0, 0, 0));
        due("6: it was a step", 0, x.undo());
        x.undo();
        due("6: back at the least corner", 1, x.extent(0, 2, 1));
        for (int s : NO_SOLIDS) {
            due("6: no solid", BAD, x.shift(s, 0, 0, 0));
            due("6: no solid, far", BAD, x.shift(s, MOST, 0, 0));
        }
    }

    private static void promise6ShiftNotInTheCube() {
        HewnSolids x = new HewnSolids();
        x.box(0, 2, 3, 4, 2, 2, 2);
        int[] greatest = {8, 7, 6};
        int[] least = {-2, -3, -4};
        for (int axis = 0; axis < 3; axis++) {
            int[] far = {greatest[axis] + 1, least[axis] - 1, 12, -12, 32, -32, MOST, LEAST, LEAST + 1};
            for (int by : far) {
                due("6: leaves along " + axis, NO,
                        x.shift(0, axis == 0 ? by : 0, axis == 1 ? by : 0, axis == 2 ? by : 0));
            }
            for (int by : new int[] {greatest[axis], least[axis]}) {
                due("6: just stays along " + axis, 8,
                        x.shift(0, axis == 0 ? by : 0, axis == 1 ? by : 0, axis == 2 ? by : 0));
                due("6: back", 0, x.undo());
            }
        }
        due("6: the solid stays", 4, x.extent(0, 2, 0));
        due("6: only the box was a step", 0, x.undo());
        due("6: no more", NO, x.undo());
    }

    private static void promise6ShiftOfAnEmptySolid() {
        HewnSolids x = new HewnSolids();
        due("6: empty, far", 0, x.shift(5, 100, -100, MOST));
        due("6: empty, farther", 0, x.shift(5, LEAST, MOST, LEAST));
        due("6: empty stays so", 0, x.volume(5));
        due("6: a step", 5, x.undo());
        due("6: another", 5, x.undo());
        due("6: no more", NO, x.undo());
    }

    private static void promise7Sweep() {
        HewnSolids x = withCornerPiece();
        due("7: along 0", 5 * 4, x.sweep(2, 0, 0, 0, 3, 6));
        due("7: along 0 from", 3, x.extent(2, 0, 0));
        due("7: along 0 to", 6, x.extent(2, 0, 1));
        due("7: along 0, other coordinate", 6, x.extent(2, 2, 1));
        due("7: along 0, elsewhere", 1 * 4, x.sweep(2, 0, 0, 2, 8, 11));
        due("7: along 1", 6 * 12, x.sweep(2, 0, 1, 1, 0, 11));
        due("7: along 1, elsewhere", 2, x.sweep(2, 0, 1, 2, 4, 5));
        due("7: along 1 to", 5, x.extent(2, 1, 1));
        due("7: along 2", 4 * 2, x.sweep(2, 0, 2, 3, 10, 11));
        due("7: along 2 from", 10, x.extent(2, 2, 0));
        due("7: along 2, one layer", 1, x.sweep(2, 0, 2, 6, 11, 11));
        due("7: along 2, nothing there", 0, x.sweep(2, 0, 2, 7, 0, 11));
        due("7: the source stays", 7, x.volume(0));
        due("7: onto itself", 4 * 12, x.sweep(0, 0, 2, 3, 0, 11));
        due("7: it is a step", 0, x.undo());
        due("7: taken back", 7, x.volume(0));
    }

    private static void promise7SweepRefused() {
        HewnSolids x = new HewnSolids();
        x.box(0, 0, 0, 0, 2, 2, 2);
        for (int s : NO_SOLIDS) {
            due("7: no s", BAD, x.sweep(s, 0, 0, 0, 0, 1));
            due("7: no a", BAD, x.sweep(0, s, 0, 0, 0, 1));
        }
        for (int axis : NO_AXES) {
            due("7: no axis", BAD, x.sweep(0, 0, axis, 0, 0, 1));
        }
        for (int at : NO_COORDINATES) {
            due("7: no at", BAD, x.sweep(0, 0, 0, at, 0, 1));
            due("7: no at goes before no from", BAD, x.sweep(0, 0, 0, at, 1, 0));
        }
        due("7: from more than to", NO, x.sweep(0, 0, 0, 0, 1, 0));
        due("7: from below", NO, x.sweep(0, 0, 0, 0, -1, 5));
        due("7: to above", NO, x.sweep(0, 0, 0, 0, 5, 12));
        due("7: both above", NO, x.sweep(0, 0, 2, 0, 12, 13));
        due("7: both below", NO, x.sweep(0, 0, 2, 0, -2, -1));
        due("7: any ints", NO, x.sweep(0, 0, 2, 0, LEAST, MOST));
        due("7: any ints the other way", NO, x.sweep(0, 0, 2, 0, MOST, LEAST));
        due("7: the solid stays", 8, x.volume(0));
        due("7: one step", 0, x.undo());
        due("7: no more", NO, x.undo());
    }

    private static void promise8Undo() {
        HewnSolids x = new HewnSolids();
        x.box(3, 0, 0, 0, 1, 1, 1);
        x.box(1, 0, 0, 0, 2, 1, 1);
        x.box(3, 0, 0, 0, 3, 1, 1);
        due("8: the latest", 3, x.undo());
        due("8: as it was", 1, x.volume(3));
        due("8: the others stay", 2, x.volume(1));
        due("8: the one before", 1, x.undo());
        due("8: as it was, empty", 0, x.volume(1));
        due("8: and its solid stays", 1, x.volume(3));
        due("8: the first", 3, x.undo());
        due("8: empty", 0, x.volume(3));
        due("8: no more", NO, x.undo());
        due("8: still no more", NO, x.undo());
    }

    private static void promise8UndoKeepsTwelve() {
        HewnSolids x = new HewnSolids();
        for (int i = 1; i <= 12; i++) {
            x.box(i % 6, 0, 0, 0, i, 1, 1);
        }
        for (int i = 1; i <= 3; i++) {
            x.box(i, 0, 0, 0, 12, i, 1);
        }
        for (int i = 3; i >= 1; i--) {
            due("8: of fifteen, the last three", i, x.undo());
        }
        for (int i = 12; i >= 4; i--) {
            due("8: of fifteen, those before", i % 6, x.undo());
        }
        due("8: the thirteenth is not kept", NO, x.undo());
        due("8: what the lost steps made stays", 3, x.volume(3));
        due("8: step 1 stays done", 1, x.volume(1));
        due("8: step 4 is taken back", 0, x.volume(4));
    }

    private static void promise8RefusedCallsAreNoSteps() {
        HewnSolids x = new HewnSolids();
        x.box(2, 0, 0, 0, 1, 1, 1);
        x.box(2, 0, 0, 0, 2, 1, 1);
        x.undo();
        x.box(2, 0, 0, 0, 13, 1, 1);
        x.box(6, 0, 0, 0, 1, 1, 1);
        x.join(2, 2, 2, 4);
        x.turn(2, 3);
        x.mirror(2, -1);
        x.shift(2, -1, 0, 0);
        x.sweep(2, 2, 0, 0, 3, 2);
        x.sweep(2, 2, 0, 12, 0, 1);
        due("8: what was taken back is still there", 2, x.redo());
        due("8: done again", 2, x.volume(2));
        due("8: two steps", 2, x.undo());
        due("8: two steps", 2, x.undo());
        due("8: no more", NO, x.undo());
    }

    private static void promise9Redo() {
        HewnSolids x = new HewnSolids();
        due("9: nothing", NO, x.redo());
        x.box(0, 0, 0, 0, 1, 1, 1);
        due("9: nothing taken back", NO, x.redo());
        x.turn(0, 2);
        x.join(4, 0, 0, 0);
        x.undo();
        x.undo();
        due("9: the latest taken back", 0, x.redo());
        due("9: it is turned", 11, x.extent(0, 0, 0));
        due("9: the next", 4, x.redo());
        CHECK.due("9: joined again", true, x.same(0, 4));
        due("9: no more", NO, x.redo());
        due("9: taken back again", 4, x.undo());
        due("9: and that", 0, x.undo());
        due("9: turned back", 0, x.extent(0, 0, 0));
        due("9: and again", 0, x.redo());
        due("9: turned", 11, x.extent(0, 0, 0));
    }

    private static void promise9RedoGoesWithANewStep() {
        HewnSolids x = new HewnSolids();
        x.box(0, 0, 0, 0, 1, 1, 1);
        x.box(1, 0, 0, 0, 1, 1, 1);
        x.undo();
        due("9: a new step that changes nothing", 1, x.join(0, 0, 0, 0));
        due("9: what was taken back is gone", NO, x.redo());
        due("9: the new step", 0, x.undo());
        due("9: the step before", 0, x.undo());
        due("9: no more", NO, x.undo());
        due("9: all again", 0, x.redo());
        due("9: all again", 0, x.redo());
        due("9: no more again", NO, x.redo());
        due("9: not done again", 0, x.volume(1));
    }

    private static void promise9RedoOfTwelve() {
        HewnSolids x = new HewnSolids();
        for (int i = 1; i <= 17; i++) {
            x.box(i % 6, 0, 0, 0, 1 + i % 12, 1, 1);
        }
        for (int round = 0; round < 3; round++) {
            for (int i = 17; i >= 6; i--) {
                due("9: back", i % 6, x.undo());
            }
            due("9: twelve are kept", NO, x.undo());
            for (int i = 6; i <= 17; i++) {
                due("9: again", i % 6, x.redo());
                due("9: as it was", 1 + i % 12, x.volume(i % 6));
            }
            due("9: twelve were taken back", NO, x.redo());
        }
    }

    private static void promise10Volume() {
        HewnSolids x = withCornerPiece();
        due("10: ordinary", 7, x.volume(0));
        x.box(0, 0, 0, 0, 12, 12, 12);
        due("10: the whole cube", 1728, x.volume(0));
        due("10: empty", 0, x.volume(5));
        for (int s : NO_SOLIDS) {
            due("10: no solid", BAD, x.volume(s));
        }
    }

    private static void promise11Sides() {
        HewnSolids x = withCornerPiece();
        due("11: a corner piece", 7 * 6 - 2 * 6, x.sides(0));
        x.box(1, 11, 11, 11, 1, 1, 1);
        due("11: a cell at the border", 6, x.sides(1));
        x.box(2, 0, 0, 0, 12, 12, 12);
        due("11: the whole cube", 6 * 144, x.sides(2));
        x.box(3, 5, 5, 5, 1, 1, 1);
        x.join(3, 2, 3, 2);
        due("11: with a hollow", 6 * 144 + 6, x.sides(3));
        due("11: empty", 0, x.sides(5));
        for (int s : NO_SOLIDS) {
            due("11: no solid", BAD, x.sides(s));
        }
    }

    private static void promise12Edges() {
        HewnSolids x = new HewnSolids();
        x.box(0, 0, 0, 0, 1, 1, 1);
        due("12: a cell at the border", 12, x.edges(0));
        x.box(1, 0, 0, 0, 12, 12, 12);
        due("12: the whole cube", 144, x.edges(1));
        x.box(2, 5, 5, 5, 1, 1, 1);
        x.join(2, 1, 2, 2);
        due("12: with a hollow (three of four)", 156, x.edges(2));
        int[][] opposite = {{0, 1, 1}, {1, 0, 1}, {1, 1, 0}};
        for (int[] by : opposite) {
            x.box(3, by[0], by[1], by[2], 1, 1, 1);
            x.join(3, 3, 0, 0);
            due("12: two opposite ones have one in common", 23, x.edges(3));
        }
        x.box(3, 1, 1, 1, 1, 1, 1);
        x.join(3, 3, 0, 0);
        due("12: at a point they have none", 24, x.edges(3));
        x.box(4, 0, 0, 0, 2, 2, 1);
        x.join(4, 4, 0, 2);
        due("12: an L", 22, x.edges(4));
        due("12: empty", 0, x.edges(5));
        for (int s : NO_SOLIDS) {
            due("12: no solid", BAD, x.edges(s));
        }
    }

    private static void promise13Pieces() {
        HewnSolids x = withCornerPiece();
        due("13: one", 1, x.pieces(0));
        x.box(1, 1, 2, 3, 1, 1, 1);
        x.join(1, 1, 0, 0);
        due("13: still one", 1, x.pieces(1));
        x.box(1, 1, 2, 4, 1, 1, 1);
        x.join(1, 1, 0, 0);
        due("13: a line in common is no touch", 2, x.pieces(1));
        x.box(2, 1, 1, 1, 1, 1, 1);
        x.box(3, 2, 2, 2, 1, 1, 1);
        x.join(2, 2, 3, 0);
        due("13: nor is a point", 2, x.pieces(2));
        x.box(2, 0, 0, 11, 1, 1, 1);
        x.box(3, 0, 1, 0, 1, 1, 1);
        x.join(2, 2, 3, 0);
        x.box(3, 1, 0, 0, 1, 1, 1);
        x.join(2, 2, 3, 0);
        x.box(3, 0, 11, 5, 1, 1, 1);
        x.join(2, 2, 3, 0);
        x.box(3, 1, 0, 5, 1, 1, 1);
        x.join(2, 2, 3, 0);
        due("13: borders don't hang together", 5, x.pieces(2));
        due("13: empty", 0, x.pieces(5));
        x.box(3, 0, 0, 0, 12, 12, 12);
        due("13: the whole cube", 1, x.pieces(3));
        ringWithStem(x, 0);
        for (int axis = 0; axis < 12; axis++) {
            due("13: a ring with a stem", 1, x.pieces(0));
            x.turn(0, axis % 3);
        }
        checkered(x);
        due("13: every second cell", 864, x.pieces(0));
        due("13: asked again", 864, x.pieces(0));
        for (int s : NO_SOLIDS) {
            due("13: no solid", BAD, x.pieces(s));
        }
    }

    /** Solid 0 becomes a ring with a stem, from x = from on; its far side is reached from both ends at once. */
    private static void ringWithStem(HewnSolids x, int from) {
        x.box(0, from + 1, 1, 1, 3, 1, 3);
        x.box(1, from + 2, 1, 2, 1, 1, 1);
        x.join(0, 0, 1, 2);
        x.box(1, from, 1, 2, 1, 1, 1);
        x.join(0, 0, 1, 0);
    }

    /** Solid 0 becomes every second cell: the stripes along each axis, cells in an odd number of them. */
    private static void checkered(HewnSolids x) {
        x.join(0, 0, 0, 3);
        for (int axis = 0; axis < 3; axis++) {
            for (int at = 0; at < 12; at += 2) {
                x.box(1, axis == 0 ? at : 0, axis == 1 ? at : 0, axis == 2 ? at : 0,
                        axis == 0 ? 1 : 12, axis == 1 ? 1 : 12, axis == 2 ? 1 : 12);
                x.join(0, 0, 1, 3);
            }
        }
    }

    private static void promise14Hollows() {
        HewnSolids x = new HewnSolids();
        due("14: empty", 0, x.hollows(0));
        x.box(0, 0, 0, 0, 12, 12, 12);
        due("14: the whole cube", 0, x.hollows(0));
        x.box(1, 1, 1, 1, 10, 10, 10);
        x.join(2, 0, 1, 2);
        due("14: a shell", 1, x.hollows(2));
        due("14: what fills it", 0, x.hollows(1));
        x.box(3, 5, 1, 1, 1, 10, 10);
        x.join(3, 2, 3, 0);
        due("14: a shell with a wall", 2, x.hollows(3));
        x.box(4, 5, 5, 5, 1, 1, 1);
        x.join(3, 3, 4, 2);
        due("14: a door in the wall", 1, x.hollows(3));
        x.box(4, 1, 1, 1, 1, 1, 1);
        x.join(4, 0, 4, 2);
        x.box(5, 2, 2, 1, 1, 1, 1);
        x.join(4, 4, 5, 2);
        due("14: hollows with a line in common", 2, x.hollows(4));
        int[][] border = {{0, 5, 5}, {11, 5, 5}, {5, 0, 5}, {5, 11, 5}, {5, 5, 0}, {5, 5, 11}};
        for (int[] c : border) {
            x.box(5, c[0], c[1], c[2], 1, 1, 1);
            x.join(5, 2, 5, 2);
            due("14: a hole in the shell", 0, x.hollows(5));
            due("14: and one piece", 1, x.pieces(5));
        }
        ringWithStem(x, 1);
        x.box(1, 0, 0, 0, 12, 12, 12);
        x.join(0, 1, 0, 2);
        for (int axis = 0; axis < 12; axis++) {
            due("14: a hollow like a ring with a stem", 1, x.hollows(0));
            x.turn(0, axis % 3);
        }
        checkered(x);
        due("14: every second cell, off the border", 500, x.hollows(0));
        for (int s : NO_SOLIDS) {
            due("14: no solid", BAD, x.hollows(s));
        }
    }

    private static void promise15Moment() {
        HewnSolids x = withCornerPiece();
        due("15: along 0", 5 * 1 + 3 + 5, x.moment(0, 0));
        due("15: along 1", 6 * 3 + 5, x.moment(0, 1));
        due("15: along 2", 4 * 7 + 9 + 11 + 13, x.moment(0, 2));
        x.box(1, 0, 0, 0, 12, 12, 12);
        for (int axis = 0; axis < 3; axis++) {
            due("15: the whole cube", 144 * 144, x.moment(1, axis));
            due("15: empty", 0, x.moment(5, axis));
        }
        for (int s : NO_SOLIDS) {
            due("15: no solid", BAD, x.moment(s, 0));
        }
        for (int axis : NO_AXES) {
            due("15: no axis", BAD, x.moment(0, axis));
        }
    }

    private static void promise16Extent() {
        HewnSolids x = withCornerPiece();
        int[][] want = {{0, 2}, {1, 2}, {3, 6}};
        for (int axis = 0; axis < 3; axis++) {
            for (int end = 0; end < 2; end++) {
                due("16: axis " + axis + " end " + end, want[axis][end], x.extent(0, axis, end));
                due("16: empty", 12, x.extent(5, axis, end));
            }
            for (int end : new int[] {-1, 2, MOST, LEAST}) {
                due("16: no end", BAD, x.extent(0, axis, end));
                due("16: no end, empty", BAD, x.extent(5, axis, end));
            }
        }
        x.box(1, 0, 0, 0, 1, 1, 1);
        x.box(2, 11, 11, 11, 1, 1, 1);
        for (int axis = 0; axis < 3; axis++) {
            for (int end = 0; end < 2; end++) {
                due("16: the first cell", 0, x.extent(1, axis, end));
                due("16: the last cell", 11, x.extent(2, axis, end));
            }
        }
        for (int s : NO_SOLIDS) {
            due("16: no solid", BAD, x.extent(s, 0, 0));
        }
        for (int axis : NO_AXES) {
            due("16: no axis", BAD, x.extent(0, axis, 0));
        }
    }

    private static void promise17Inside() {
        HewnSolids x = new HewnSolids();
        x.box(0, 2, 3, 4, 2, 2, 2);
        due("17: the middle", 1, x.inside(0, 3, 4, 5));
        due("17: a corner", 0, x.inside(0, 2, 3, 4));
        due("17: the other corner", 0, x.inside(0, 4, 5, 6));
        due("17: a side", 0, x.inside(0, 3, 4, 4));
        due("17: outside along 0", -1, x.inside(0, 1, 4, 5));
        due("17: outside along 1", -1, x.inside(0, 3, 6, 5));
        due("17: outside along 2", -1, x.inside(0, 3, 4, 7));
        x.box(1, 0, 0, 0, 12, 12, 12);
        due("17: the cube's corner", 0, x.inside(1, 0, 0, 0));
        due("17: the cube's other corner", 0, x.inside(1, 12, 12, 12));
        due("17: its side", 0, x.inside(1, 6, 6, 12));
        due("17: its other side", 0, x.inside(1, 6, 0, 6));
        due("17: near its corner", 1, x.inside(1, 1, 1, 1));
        due("17: near the other corner", 1, x.inside(1, 11, 11, 11));
        for (int i = 0; i < 8; i++) {
            x.box(2, 5 + (i & 1), 5 + (i >> 1 & 1), 5 + (i >> 2), 1, 1, 1);
            x.join(3, 1, 2, 2);
            due("17: one of eight", 0, x.inside(2, 6, 6, 6));
            due("17: seven of eight", 0, x.inside(3, 6, 6, 6));
        }
        due("17: empty", -1, x.inside(5, 0, 0, 0));
        due("17: empty at the end", -1, x.inside(5, 12, 12, 12));
        for (int s : NO_SOLIDS) {
            due("17: no solid", -9, x.inside(s, 0, 0, 0));
        }
        for (int c : new int[] {-1, 13, MOST, LEAST}) {
            due("17: no x", -9, x.inside(1, c, 0, 0));
            due("17: no y", -9, x.inside(1, 0, c, 0));
            due("17: no z", -9, x.inside(1, 0, 0, c));
        }
    }

    private static void promise18Section() {
        HewnSolids x = withCornerPiece();
        int[][] want = {{5, 1, 1, 0}, {0, 6, 1, 0}, {0, 0, 0, 4, 1, 1, 1, 0}};
        for (int axis = 0; axis < 3; axis++) {
            for (int at = 0; at < want[axis].length; at++) {
                due("18: axis " + axis + " at " + at, want[axis][at], x.section(0, axis, at));
            }
            for (int at : NO_COORDINATES) {
                due("18: no at", BAD, x.section(0, axis, at));
            }
            due("18: empty", 0, x.section(5, axis, 11));
        }
        x.box(1, 0, 0, 0, 12, 12, 12);
        due("18: the whole cube", 144, x.section(1, 2, 11));
        for (int s : NO_SOLIDS) {
            due("18: no solid", BAD, x.section(s, 0, 0));
        }
        for (int axis : NO_AXES) {
            due("18: no axis", BAD, x.section(0, axis, 0));
        }
    }

    private static void promise19Same() {
        HewnSolids x = withCornerPiece();
        CHECK.due("19: one twice", true, x.same(0, 0));
        CHECK.due("19: an empty one twice", true, x.same(5, 5));
        CHECK.due("19: two empty ones", true, x.same(4, 5));
        CHECK.due("19: others", false, x.same(0, 5));
        x.join(1, 0, 0, 1);
        CHECK.due("19: made the same", true, x.same(0, 1));
        x.shift(1, 1, 0, 0);
        CHECK.due("19: as many, elsewhere", false, x.same(0, 1));
        CHECK.due("19: the other way", false, x.same(1, 0));
        x.box(2, 0, 0, 0, 12, 12, 12);
        x.box(3, 11, 11, 11, 1, 1, 1);
        x.join(3, 2, 3, 2);
        CHECK.due("19: all but the last cell", false, x.same(2, 3));
        x.box(3, 0, 0, 0, 1, 1, 1);
        x.join(3, 2, 3, 2);
        CHECK.due("19: all but the first cell", false, x.same(2, 3));
        for (int s : NO_SOLIDS) {
            CHECK.due("19: no a", false, x.same(s, 0));
            CHECK.due("19: no b", false, x.same(0, s));
            CHECK.due("19: neither", false, x.same(s, s));
        }
    }

    private static void promise20Depth() {
        HewnSolids x = withCornerPiece();
        due("20: along 0 from below", 0, x.depth(0, 0, false, 1, 3));
        due("20: along 0 from above", 9, x.depth(0, 0, true, 1, 3));
        due("20: along 0, v", 11, x.depth(0, 0, true, 1, 6));
        due("20: along 0, u", 11, x.depth(0, 0, true, 2, 3));
        due("20: along 1 from below", 1, x.depth(0, 1, false, 0, 3));
        due("20: along 1 from above", 9, x.depth(0, 1, true, 0, 3));
        due("20: along 1, u", 10, x.depth(0, 1, true, 2, 3));
        due("20: along 2 from below", 3, x.depth(0, 2, false, 0, 1));
        due("20: along 2 from above", 5, x.depth(0, 2, true, 0, 1));
        due("20: along 2, v", 8, x.depth(0, 2, true, 0, 2));
        due("20: none", 12, x.depth(0, 2, true, 3, 1));
        due("20: none from below", 12, x.depth(0, 0, false, 3, 1));
        x.box(1, 0, 0, 11, 12, 12, 1);
        due("20: the last", 11, x.depth(1, 2, false, 11, 11));
        due("20: the first", 0, x.depth(1, 2, true, 11, 11));
        for (int c : NO_COORDINATES) {
            due("20: no u", BAD, x.depth(0, 2, true, c, 1));
            due("20: no v", BAD, x.depth(0, 2, true, 0, c));
        }
        for (int s : NO_SOLIDS) {
            due("20: no solid", BAD, x.depth(s, 0, false, 0, 0));
        }
        for (int axis : NO_AXES) {
            due("20: no axis", BAD, x.depth(0, axis, false, 0, 0));
        }
    }

    private static void promise21Stroke() {
        HewnSolids x = new HewnSolids();
        x.box(0, 2, 3, 4, 6, 6, 6);
        x.box(1, 3, 4, 9, 2, 2, 1);
        x.join(0, 0, 1, 2);
        // A pit in the side of greater z: seen from above, hidden from below.
        due("21: outline", 2, x.stroke(0, 2, true, 2, 5, 0));
        due("21: outline's other end", 2, x.stroke(0, 2, true, 8, 5, 0));
        due("21: outline across", 2, x.stroke(0, 2, false, 5, 3, 1));
        due("21: outline across, other end", 2, x.stroke(0, 2, false, 5, 9, 1));
        due("21: the pit from above", 2, x.stroke(0, 2, true, 3, 4, 0));
        due("21: the pit from below", 1, x.stroke(0, 2, false, 3, 4, 0));
        due("21: the pit's other wall", 1, x.stroke(0, 2, false, 5, 5, 0));
        due("21: the pit across", 1, x.stroke(0, 2, false, 4, 4, 1));
        due("21: the pit across, other wall", 1, x.stroke(0, 2, false, 4, 6, 1));
        due("21: on the floor of the pit", 0, x.stroke(0, 2, true, 4, 4, 0));
        due("21: beside the pit", 0, x.stroke(0, 2, false, 3, 6, 0));
        due("21: the pit from the side", 1, x.stroke(0, 0, false, 4, 9, 0));
        due("21: its floor from the side", 1, x.stroke(0, 0, true, 4, 9, 1));
        due("21: its floor along 1", 1, x.stroke(0, 1, false, 3, 9, 1));
        due("21: its wall along 1", 1, x.stroke(0, 1, true, 3, 9, 0));
        due("21: lines along the view don't count", 0, x.stroke(0, 2, false, 6, 4, 0));
        x.box(2, 0, 0, 0, 2, 2, 2);
        x.box(3, 1, 1, 0, 1, 1, 2);
        x.join(2, 2, 3, 2);
        x.box(3, 0, 0, 2, 2, 2, 1);
        x.join(2, 2, 3, 0);
        due("21: seen in a notch from below", 2, x.stroke(2, 2, false, 1, 1, 0));
        due("21: hidden behind its roof", 1, x.stroke(2, 2, true, 1, 1, 0));
    }

    private static void promise21StrokeAtTheBorder() {
        HewnSolids x = new HewnSolids();
        x.box(0, 0, 0, 0, 12, 12, 12);
        for (int axis = 0; axis < 3; axis++) {
            due("21: u = 0", 2, x.stroke(0, axis, false, 0, 11, 0));
            due("21: u = 12", 2, x.stroke(0, axis, true, 12, 0, 0));
            due("21: v = 0", 2, x.stroke(0, axis, true, 11, 0, 1));
            due("21: v = 12", 2, x.stroke(0, axis, false, 0, 12, 1));
            due("21: within", 0, x.stroke(0, axis, false, 6, 6, 0));
            due("21: within, across", 0, x.stroke(0, axis, false, 6, 6, 1));
            due("21: empty, u = 12", 0, x.stroke(5, axis, false, 12, 0, 0));
            due("21: empty, v = 12", 0, x.stroke(5, axis, true, 0, 12, 1));
        }
        // A stair at the far end alone: the line at coordinate 0, and the one at 12, count as well.
        x.box(1, 6, 0, 0, 6, 12, 1);
        x.join(1, 0, 1, 2);
        due("21: hidden at the far end", 1, x.stroke(1, 2, true, 6, 3, 0));
        due("21: seen at the near end", 2, x.stroke(1, 2, false, 6, 3, 0));
    }

    private static void promise21StrokeRefused() {
        HewnSolids x = new HewnSolids();
        x.box(0, 0, 0, 0, 12, 12, 12);
        due("21: u 12 is too many with across 1", BAD, x.stroke(0, 0, false, 12, 0, 1));
        due("21: v 12 is too many with across 0", BAD, x.stroke(0, 0, false, 0, 12, 0));
        for (int c : new int[] {-1, 13, MOST, LEAST}) {
            for (int across = 0; across < 2; across++) {
                due("21: no u", BAD, x.stroke(0, 1, false, c, 0, across));
                due("21: no v", BAD, x.stroke(0, 1, false, 0, c, across));
            }
        }
        for (int across : new int[] {-1, 2, MOST, LEAST}) {
            due("21: no across", BAD, x.stroke(0, 2, true, 0, 0, across));
        }
        for (int s : NO_SOLIDS) {
            due("21: no solid", BAD, x.stroke(s, 0, false, 0, 0, 0));
        }
        for (int axis : NO_AXES) {
            due("21: no axis", BAD, x.stroke(0, axis, false, 0, 0, 0));
        }
    }

    private static void promise22Strokes() {
        HewnSolids x = new HewnSolids();
        x.box(0, 2, 3, 4, 6, 5, 4);
        x.box(1, 3, 4, 7, 2, 3, 1);
        x.join(0, 0, 1, 2);
        due("22: outline and pit from above", 22 + 10, x.strokes(0, 2, true, 2));
        due("22: none hidden from above", 0, x.strokes(0, 2, true, 1));
        due("22: outline from below", 22, x.strokes(0, 2, false, 2));
        due("22: the pit hidden from below", 10, x.strokes(0, 2, false, 1));
        due("22: outline along 0", 18, x.strokes(0, 0, false, 2));
        due("22: the pit along 0", 3 + 2, x.strokes(0, 0, true, 1));
        due("22: outline along 1", 20, x.strokes(0, 1, true, 2));
        due("22: the pit along 1", 2 + 2, x.strokes(0, 1, false, 1));
        x.box(2, 0, 0, 0, 12, 12, 12);
        for (int axis = 0; axis < 3; axis++) {
            due("22: the whole cube", 48, x.strokes(2, axis, false, 2));
            due("22: it hides none", 0, x.strokes(2, axis, true, 1));
            due("22: empty", 0, x.strokes(5, axis, true, 2));
            due("22: empty hides none", 0, x.strokes(5, axis, false, 1));
        }
        for (int kind : new int[] {-1, 0, 3, MOST, LEAST}) {
            due("22: no kind", BAD, x.strokes(0, 0, false, kind));
        }
        for (int s : NO_SOLIDS) {
            due("22: no solid", BAD, x.strokes(s, 0, false, 2));
        }
        for (int axis : NO_AXES) {
            due("22: no axis", BAD, x.strokes(0, axis, false, 2));
        }
    }

    private static void askingChangesNothing() {
        HewnSolids x = withCornerPiece();
        x.join(3, 0, 0, 0);
        x.box(2, 0, 0, 0, 1, 1, 1);
        x.undo();
        for (int round = 0; round < 2; round++) {
            due("sides", 30, x.sides(0));
            due("pieces", 1, x.pieces(0));
            due("hollows", 0, x.hollows(0));
            due("edges", x.edges(3), x.edges(0));
            due("strokes", x.strokes(3, 0, false, 2), x.strokes(0, 0, false, 2));
            CHECK.due("same", true, x.same(0, 3));
        }
        due("redo behind questions", 2, x.redo());
        due("undo behind questions", 2, x.undo());
        due("undo behind questions", 3, x.undo());
    }
}
