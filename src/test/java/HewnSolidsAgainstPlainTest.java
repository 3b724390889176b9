import java.util.Random;

/** Long runs of calls, drawn with fixed seeds, on the program and on the plain one: the answers must agree. */
public final class HewnSolidsAgainstPlainTest {
    private static final int RUNS = 120;
    // The document promises nothing about an object after its 512th call.
    private static final int CALLS = 512;
    private static final int[] ODD = {-1, -2, 6, 12, 13, 14, 100, -100,
        Integer.MAX_VALUE, Integer.MAX_VALUE - 1, Integer.MIN_VALUE, Integer.MIN_VALUE + 1};

    private final Check check;
    private final Random random;
    private final HewnSolids made = new HewnSolids();
    private final PlainSolids plain = new PlainSolids();
    private final int oddsOfOdd;

    private HewnSolidsAgainstPlainTest(Check check, int seed) {
        this.check = check;
        this.random = new Random(seed);
        this.oddsOfOdd = seed % 3 == 0 ? 20 : 150;
    }

    public static void main(String[] args) {
        Check check = new Check();
        for (int seed = 0; seed < RUNS && check.wrongSoFar() < 20; seed++) {
            HewnSolidsAgainstPlainTest run = new HewnSolidsAgainstPlainTest(check, seed);
            for (int i = 0; i < CALLS; i++) {
                run.call("seed " + seed + " call " + i + ": ");
            }
        }
        check.finish();
    }

    private int pick(int from, int to) {
        if (random.nextInt(oddsOfOdd) == 0) {
            return ODD[random.nextInt(ODD.length)];
        }
        return from + random.nextInt(to - from + 1);
    }

    private void call(String where) {
        int which = random.nextInt(100);
        if (which < 45) {
            step(where, which);
        } else if (which < 55) {
            if (random.nextInt(3) < 2) {
                check.due(where + "undo()", plain.undo(), made.undo());
            } else {
                check.due(where + "redo()", plain.redo(), made.redo());
            }
        } else if (which < 80) {
            ask(where, random.nextInt(10));
        } else {
            look(where, random.nextInt(3));
        }
    }

    private void step(String where, int which) {
        int s = pick(0, 5);
        if (which < 14) {
            int[] start = {pick(0, 9), pick(0, 9), pick(0, 9)};
            int[] length = new int[3];
            for (int i = 0; i < 3; i++) {
                int room = start[i] >= 0 && start[i] <= 11 ? 12 - start[i] : 3;
                length[i] = pick(random.nextInt(30) == 0 ? 0 : 1, random.nextInt(40) == 0 ? room + 1 : room);
            }
            check.due(where + "box(" + s + ", " + start[0] + ", " + start[1] + ", " + start[2] + ", "
                    + length[0] + ", " + length[1] + ", " + length[2] + ")",
                    plain.box(s, start[0], start[1], start[2], length[0], length[1], length[2]),
                    made.box(s, start[0], start[1], start[2], length[0], length[1], length[2]));
        } else if (which < 32) {
            int a = pick(0, 5);
            int b = pick(0, 5);
            int how = random.nextInt(4) == 0 ? pick(0, 3) : pick(2, 3);
            check.due(where + "join(" + s + ", " + a + ", " + b + ", " + how + ")",
                    plain.join(s, a, b, how), made.join(s, a, b, how));
        } else if (which < 36) {
            int axis = pick(0, 2);
            check.due(where + "turn(" + s + ", " + axis + ")", plain.turn(s, axis), made.turn(s, axis));
        } else if (which < 39) {
            int axis = pick(0, 2);
            check.due(where + "mirror(" + s + ", " + axis + ")", plain.mirror(s, axis), made.mirror(s, axis));
        } else if (which < 42) {
            int dx = pick(-2, 2);
            int dy = pick(-2, 2);
            int dz = pick(-2, 2);
            check.due(where + "shift(" + s + ", " + dx + ", " + dy + ", " + dz + ")",
                    plain.shift(s, dx, dy, dz), made.shift(s, dx, dy, dz));
        } else {
            int a = pick(0, 5);
            int axis = pick(0, 2);
            int at = pick(0, 11);
            int from = pick(0, 7);
            int to = pick(5, 11);
            check.due(where + "sweep(" + s + ", " + a + ", " + axis + ", " + at + ", " + from + ", " + to + ")",
                    plain.sweep(s, a, axis, at, from, to), made.sweep(s, a, axis, at, from, to));
        }
    }

    private void ask(String where, int which) {
        int s = pick(0, 5);
        int axis = pick(0, 2);
        int x = pick(0, 12);
        switch (which) {
            case 0 -> check.due(where + "volume(" + s + ")", plain.volume(s), made.volume(s));
            case 1 -> check.due(where + "sides(" + s + ")", plain.sides(s), made.sides(s));
            case 2 -> check.due(where + "edges(" + s + ")", plain.edges(s), made.edges(s));
            case 3 -> check.due(where + "pieces(" + s + ")", plain.pieces(s), made.pieces(s));
            case 4 -> check.due(where + "hollows(" + s + ")", plain.hollows(s), made.hollows(s));
            case 5 -> check.due(where + "moment(" + s + ", " + axis + ")",
                    plain.moment(s, axis), made.moment(s, axis));
            case 6 -> {
                int end = pick(0, 1);
                check.due(where + "extent(" + s + ", " + axis + ", " + end + ")",
                        plain.extent(s, axis, end), made.extent(s, axis, end));
            }
            case 7 -> {
                int y = pick(0, 12);
                int z = pick(0, 12);
                check.due(where + "inside(" + s + ", " + x + ", " + y + ", " + z + ")",
                        plain.inside(s, x, y, z), made.inside(s, x, y, z));
            }
            case 8 -> check.due(where + "section(" + s + ", " + axis + ", " + x + ")",
                    plain.section(s, axis, x), made.section(s, axis, x));
            default -> {
                int b = pick(0, 5);
                check.due(where + "same(" + s + ", " + b + ")", plain.same(s, b), made.same(s, b));
            }
        }
    }

    private void look(String where, int which) {
        int s = pick(0, 5);
        int axis = pick(0, 2);
        boolean above = random.nextBoolean();
        int u = pick(0, 12);
        int v = pick(0, 12);
        String view = s + ", " + axis + ", " + above + ", ";
        if (which == 0) {
            check.due(where + "depth(" + view + u + ", " + v + ")",
                    plain.depth(s, axis, above, u, v), made.depth(s, axis, above, u, v));
        } else if (which == 1) {
            int across = pick(0, 1);
            check.due(where + "stroke(" + view + u + ", " + v + ", " + across + ")",
                    plain.stroke(s, axis, above, u, v, across), made.stroke(s, axis, above, u, v, across));
        } else {
            int kind = random.nextInt(20) == 0 ? pick(0, 3) : pick(1, 2);
            check.due(where + "strokes(" + view + kind + ")",
                    plain.strokes(s, axis, above, kind), made.strokes(s, axis, above, kind));
        }
    }
}
