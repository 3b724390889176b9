import java.util.ArrayList;
import java.util.List;
import java.util.function.Consumer;

/**
 * A state of an object, made by the same calls each time, to see what a call changes in it. Behind the first step,
 * solid 0 is the box from (2, 3, 4) to (3, 4, 5); solid 5 is always empty.
 */
enum Scene {
    /** Nothing was done. */
    NEW(0, 0),
    /** Seven steps are kept, and five were taken back. */
    MIDST(15, 5),
    /** Twelve steps are kept, and none was taken back. */
    FULL(15, 0),
    /** None is kept, since twelve were taken back. */
    BACK(15, 12);

    private static final List<Consumer<HewnSolids>> STEPS = List.of(
            x -> x.box(0, 2, 3, 4, 2, 2, 2),
            x -> x.box(1, 0, 0, 0, 12, 12, 12),
            x -> x.box(2, 1, 2, 3, 4, 5, 6),
            x -> x.join(1, 1, 2, 2),
            x -> x.box(3, 0, 0, 0, 3, 1, 1),
            x -> x.join(2, 2, 3, 3),
            x -> x.turn(2, 0),
            x -> x.mirror(3, 2),
            x -> x.sweep(4, 2, 1, 5, 2, 7),
            x -> x.shift(3, 4, 0, -1),
            x -> x.turn(4, 1),
            x -> x.join(3, 3, 0, 0),
            x -> x.mirror(4, 0),
            x -> x.join(2, 4, 0, 3),
            x -> x.box(4, 11, 11, 11, 1, 1, 1));

    // No more than this can be kept or taken back; one more call is made to see that it answers NO.
    private static final int MOST_STEPS = 12;

    private final int done;
    private final int takenBack;
    private List<Integer> answersWhenLeftAlone;

    Scene(int done, int takenBack) {
        this.done = done;
        this.takenBack = takenBack;
    }

    HewnSolids make() {
        HewnSolids x = new HewnSolids();
        for (int i = 0; i < done; i++) {
            STEPS.get(i).accept(x);
        }
        for (int i = 0; i < takenBack; i++) {
            x.undo();
        }
        return x;
    }

    /** Whether an object that was made so still answers all later calls as if nothing had been called since. */
    boolean isStillIn(HewnSolids x) {
        if (answersWhenLeftAlone == null) {
            answersWhenLeftAlone = laterAnswers(make());
        }
        return laterAnswers(x).equals(answersWhenLeftAlone);
    }

    /** What at most some 430 calls answer: few enough for an object that is used for at most 512. */
    private static List<Integer> laterAnswers(HewnSolids x) {
        List<Integer> answers = new ArrayList<>();
        tellSolids(x, answers);
        for (int i = 0; i <= MOST_STEPS; i++) {
            tellStep(x, x.redo(), answers);
        }
        for (int i = 0; i <= MOST_STEPS; i++) {
            tellStep(x, x.undo(), answers);
        }
        tellSolids(x, answers);
        answers.add(x.join(5, 1, 0, 3));
        tellSolid(x, 5, answers);
        return answers;
    }

    private static void tellSolids(HewnSolids x, List<Integer> answers) {
        for (int s = 0; s < 6; s++) {
            tellSolid(x, s, answers);
        }
    }

    private static void tellSolid(HewnSolids x, int s, List<Integer> answers) {
        answers.add(x.sides(s));
        answers.add(x.edges(s));
        answers.add(x.pieces(s));
        answers.add(x.hollows(s));
        tellPlace(x, s, answers);
        for (int axis = 0; axis < 3; axis++) {
            answers.add(x.extent(s, axis, 0));
            answers.add(x.extent(s, axis, 1));
            answers.add(x.section(s, axis, 4));
            answers.add(x.strokes(s, axis, false, 1));
            answers.add(x.strokes(s, axis, true, 2));
        }
    }

    private static void tellStep(HewnSolids x, int solid, List<Integer> answers) {
        answers.add(solid);
        if (solid >= 0) {
            tellPlace(x, solid, answers);
        }
    }

    private static void tellPlace(HewnSolids x, int s, List<Integer> answers) {
        answers.add(x.volume(s));
        for (int axis = 0; axis < 3; axis++) {
            answers.add(x.moment(s, axis));
        }
    }
}
