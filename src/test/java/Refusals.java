import java.util.function.ToIntFunction;

/** Holds calls that are refused against the document: they answer so, and no later call answers otherwise for them. */
final class Refusals {
    /** A call with one of its arguments left open. */
    interface OpenCall {
        int with(HewnSolids x, int n);
    }

    private final Check check;

    Refusals(Check check) {
        this.check = check;
    }

    void due(String call, int want, ToIntFunction<HewnSolids> refused) {
        dueIn(Scene.values(), call, want, refused);
    }

    void dueIn(Scene[] scenes, String call, int want, ToIntFunction<HewnSolids> refused) {
        for (Scene scene : scenes) {
            HewnSolids x = scene.make();
            check.due(scene + " " + call, want, refused.applyAsInt(x));
            check.due(scene + " " + call + " changes nothing", true, scene.isStillIn(x));
        }
    }

    /** The open argument is taken from least to greatest; whatever lies beyond is refused. */
    void dueBeyond(int least, int greatest, String call, int want, OpenCall open) {
        refusedBeyond(least, greatest, call, want, open);
        for (int n = least; n <= greatest; n++) {
            boolean refused = open.with(Scene.MIDST.make(), n) == want;
            check.due(call + " with n = " + n + " is refused", false, refused);
        }
    }

    void refusedBeyond(int least, int greatest, String call, int want, OpenCall open) {
        for (int n : beyond(least, greatest)) {
            due(call + " with n = " + n, want, x -> open.with(x, n));
        }
    }

    // The round ones would be taken if only some bits of an int were looked at.
    private static int[] beyond(int least, int greatest) {
        return new int[] {least - 1, greatest + 1, least - 256, least + 65536, Integer.MIN_VALUE, Integer.MAX_VALUE};
    }
}
