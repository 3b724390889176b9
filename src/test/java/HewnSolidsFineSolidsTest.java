import java.util.Random;

/**
 * Solids drawn of many small boxes, with fixed seeds, on the program and on the plain one. Long runs of drawn calls
 * seldom come to more than one piece or hollow; these come to dozens.
 */
public final class HewnSolidsFineSolidsTest {
    private static final int RUNS = 60;
    // With two calls a box, and some 230 for the questions, an object stays within its 512 calls.
    private static final int MOST_BOXES = 130;
    private static final int DRAWN_QUESTIONS = 40;

    private static int mostPieces;
    private static int mostHollows;
    private static int mostHidden;

    private final Check check;
    private final Random random;
    private final String where;
    private final HewnSolids made = new HewnSolids();
    private final PlainSolids plain = new PlainSolids();

    private HewnSolidsFineSolidsTest(Check check, int seed) {
        this.check = check;
        this.random = new Random(seed);
        this.where = "seed " + seed + ": ";
    }

    public static void main(String[] args) {
        Check check = new Check();
        for (int seed = 0; seed < RUNS && check.wrongSoFar() < 20; seed++) {
            HewnSolidsFineSolidsTest run = new HewnSolidsFineSolidsTest(check, seed);
            run.hew(seed % 2 == 0, 1 + seed % 3);
            run.moveAbout();
            run.askOfTheWhole();
            for (int axis = 0; axis < 3; axis++) {
                run.askAlong(axis);
            }
            for (int i = 0; i < DRAWN_QUESTIONS; i++) {
                run.askOfAPlace();
            }
        }
        check.due("some solid has many pieces", true, mostPieces >= 30);
        check.due("some solid has many hollows", true, mostHollows >= 30);
        check.due("some view has many hidden strokes", true, mostHidden >= 100);
        check.finish();
    }

    private void due(String call, int want, int got) {
        check.due(where + call, want, got);
    }

    /** Solid 0 becomes what lies in an odd number of the boxes drawn (the whole cube may be one of them). */
    private void hew(boolean fromTheWhole, int longest) {
        if (fromTheWhole) {
            due("box", plain.box(0, 0, 0, 0, 12, 12, 12), made.box(0, 0, 0, 0, 12, 12, 12));
        }
        int boxes = 20 + random.nextInt(MOST_BOXES - 20);
        for (int i = 0; i < boxes; i++) {
            int[] start = new int[3];
            int[] length = new int[3];
            for (int axis = 0; axis < 3; axis++) {
                length[axis] = 1 + random.nextInt(longest);
                start[axis] = random.nextInt(13 - length[axis]);
            }
            due("small box", plain.box(1, start[0], start[1], start[2], length[0], length[1], length[2]),
                    made.box(1, start[0], start[1], start[2], length[0], length[1], length[2]));
            due("join", plain.join(0, 0, 1, 3), made.join(0, 0, 1, 3));
        }
    }

    private void moveAbout() {
        int axis = random.nextInt(3);
        due("turn around " + axis, plain.turn(0, axis), made.turn(0, axis));
        int other = random.nextInt(3);
        due("mirror along " + other, plain.mirror(0, other), made.mirror(0, other));
    }

    private void askOfTheWhole() {
        int pieces = plain.pieces(0);
        int hollows = plain.hollows(0);
        mostPieces = Math.max(mostPieces, pieces);
        mostHollows = Math.max(mostHollows, hollows);
        due("volume", plain.volume(0), made.volume(0));
        due("sides", plain.sides(0), made.sides(0));
        due("edges", plain.edges(0), made.edges(0));
        due("pieces", pieces, made.pieces(0));
        due("hollows", hollows, made.hollows(0));
    }

    private void askAlong(int axis) {
        due("moment along " + axis, plain.moment(0, axis), made.moment(0, axis));
        due("extent along " + axis + ", 0", plain.extent(0, axis, 0), made.extent(0, axis, 0));
        due("extent along " + axis + ", 1", plain.extent(0, axis, 1), made.extent(0, axis, 1));
        for (int at = 0; at < 12; at++) {
            due("section along " + axis + " at " + at, plain.section(0, axis, at), made.section(0, axis, at));
        }
        for (boolean above : new boolean[] {false, true}) {
            int hidden = plain.strokes(0, axis, above, 1);
            mostHidden = Math.max(mostHidden, hidden);
            due("hidden along " + axis + ", " + above, hidden, made.strokes(0, axis, above, 1));
            due("visible along " + axis + ", " + above, plain.strokes(0, axis, above, 2),
                    made.strokes(0, axis, above, 2));
        }
    }

    private void askOfAPlace() {
        int axis = random.nextInt(3);
        boolean above = random.nextBoolean();
        int across = random.nextInt(2);
        int u = random.nextInt(13);
        int v = random.nextInt(13);
        int z = random.nextInt(13);
        String view = axis + ", " + above + ", " + u + ", " + v;
        due("inside " + u + ", " + v + ", " + z, plain.inside(0, u, v, z), made.inside(0, u, v, z));
        due("depth " + view, plain.depth(0, axis, above, u, v), made.depth(0, axis, above, u, v));
        due("stroke " + view + ", " + across, plain.stroke(0, axis, above, u, v, across),
                made.stroke(0, axis, above, u, v, across));
        if (random.nextInt(4) == 0) {
            due("undo", plain.undo(), made.undo());
        }
    }
}
