import java.util.ArrayList;
import java.util.Arrays;
import java.util.List;

/**
 * Each refusal of each promise, in the order -1 to -7. Behind every refused call the object is asked for all that can be
 * asked of it: nothing may have changed but how many refusals of that number there were.
 */
public final class EdgeRefusals {
    private static final int LEAST = Integer.MIN_VALUE;
    private static final int GREATEST = Integer.MAX_VALUE;

    private static int wrong = 0;

    private interface Call {
        long on(FallChain x);
    }

    private interface Maker {
        FallChain make();
    }

    private static void due(String what, long got, long want) {
        if (got != want) {
            wrong++;
            System.out.println(what + " answered " + got + ", due is " + want);
        }
    }

    // ---- an object in which each thing is there that a call may find

    private static final int FREE = 85;
    private static final int BALL = 50;
    private static final int TRACK = 53;
    private static final int TRACK_WITH_BALL = 51;
    /** A cell with a piece of each kind, by kinds; there is no kind 0. */
    private static final int[] PIECE = {-1, 13, 14, 60, 54, 40, 44, 42, 26, TRACK};

    private static final int BYTES = 0;
    private static final int FEW_BYTES = 1;
    private static final int SHORTS = 2;
    private static final int PLAN = 3;
    private static final int EMPTY = 4;
    private static final int PIECES = 5;
    private static final int SIX = 6;
    private static final int LAST_PLAN = 7;

    private static void fill(FallChain x, int s, int sort, long... values) {
        x.row(s, sort, values.length);
        for (int i = 0; i < values.length; i++) {
            x.set(s, i, values[i]);
        }
    }

    private static FallChain full() {
        FallChain x = new FallChain();
        x.put(26, 8, 0, 0);
        x.start(13, 3, 0);
        due("made: fewest", x.fewest(26, -1), 2);
        x.put(13, 1, 1, 0);
        due("made: fits", x.fits(14, 26, 3) > 1 ? 1 : 0, 1);
        x.put(14, 2, 2, 0);
        due("made: fragile", x.fragile(26, -1) > 1 ? 1 : 0, 1);
        x.keep(PLAN);
        x.run();
        x.put(40, 5, 0, 0);
        x.put(44, 6, 1, 2);
        x.put(42, 7, 0, 0);
        x.ball(BALL);
        x.put(TRACK_WITH_BALL, 9, 10, 0);
        x.ball(TRACK_WITH_BALL);
        x.put(TRACK, 9, 10, 0);
        x.put(54, 4, 2, 60);
        x.cords(60, 1, 70, 3);
        x.start(BALL, 3, 5);
        x.start(40, 0, 7);
        x.keep(LAST_PLAN);
        fill(x, BYTES, 0, 1, -2, 3, -4, 5);
        fill(x, FEW_BYTES, 0, 6, 7, 8);
        fill(x, SHORTS, 1, 80, 8, 0, 0, 81, 10, 0, 0);
        fill(x, PIECES, 2, 82, 8, 0, 0, 83, 3, 0, 0);
        fill(x, SIX, 3, 82, 8, 0, 0, 83, 8);
        // Each number was refused a few times already, each another time.
        for (int number = 1; number <= 7; number++) {
            for (int k = 0; k < number; k++) {
                due("made: refusal", refuseBy(x, number), -number);
            }
        }
        return x;
    }

    private static long refuseBy(FallChain x, int number) {
        switch (number) {
            case 1: return x.raze(96);
            case 2: return x.load(BYTES);
            case 3: return x.load(EMPTY);
            case 4: return x.row(BYTES, 0, -1);
            case 5: return x.set(BYTES, 5, 0);
            case 6: return x.put(FREE, 0, 0, 0);
            default: return x.row(BYTES, 0, 101);
        }
    }

    private static FallChain withFourStarts() {
        FallChain x = full();
        due("made: fourth start", x.start(54, 0, 9), 4);
        return x;
    }

    // ---- all that can be asked

    /** Questions in bundles, each asked of an object of its own, as no object is used for more than 512 calls. */
    private static List<List<Call>> questions() {
        List<List<Call>> bundles = new ArrayList<>();
        for (int what = 0; what <= 4; what++) {
            bundles.add(ofCells(what));
        }
        bundles.add(ofTheShelves());
        bundles.add(ofTheRun());
        bundles.add(ofTheWishes());
        // The next run shows the starts, which cannot be asked for.
        bundles.add(behind(List.of(FallChain::run), ofTheRun()));
        bundles.add(behind(List.of(x -> x.load(PLAN), FallChain::run), ofTheRun()));
        bundles.add(behind(List.of(x -> x.load(LAST_PLAN), FallChain::run), ofTheRun()));
        return bundles;
    }

    private static List<Call> behind(List<Call> first, List<Call> then) {
        List<Call> asked = new ArrayList<>(first);
        asked.addAll(then);
        return asked;
    }

    private static List<Call> ofCells(int what) {
        List<Call> asked = new ArrayList<>();
        for (int c = 0; c < 96; c++) {
            int cell = c;
            asked.add(x -> x.at(cell, what));
            asked.add(x -> x.ended(cell, what));
        }
        return asked;
    }

    private static List<Call> ofTheShelves() {
        List<Call> asked = new ArrayList<>();
        for (int w = 0; w <= 4; w++) {
            int what = w;
            asked.add(x -> x.status(what));
        }
        for (int k = 0; k < 8; k++) {
            int s = k;
            asked.add(x -> x.holds(s));
            for (int e = 0; e < 12; e++) {
                int i = e;
                asked.add(x -> x.element(s, i));
            }
            asked.add(x -> x.element(s, 99));
        }
        return asked;
    }

    private static List<Call> ofTheRun() {
        List<Call> asked = new ArrayList<>();
        for (int w = 0; w <= 5; w++) {
            int what = w;
            asked.add(x -> x.ran(what));
            for (int k = 0; k < 30; k++) {
                int i = k;
                asked.add(x -> x.strike(i, what));
            }
        }
        for (int k = 0; k < 5; k++) {
            int i = k;
            asked.add(x -> x.why(26, i));
        }
        return asked;
    }

    private static List<Call> ofTheWishes() {
        List<Call> asked = new ArrayList<>();
        for (int k = 0; k < 70; k++) {
            int i = k;
            asked.add(x -> x.weak(i));
            asked.add(x -> x.fit(i));
            asked.add(x -> x.fewestPiece(i));
        }
        return asked;
    }

    private static final List<List<Call>> QUESTIONS = questions();

    private static long[][] answers(Maker maker, Call first, long want, String what) {
        long[][] answers = new long[QUESTIONS.size()][];
        for (int k = 0; k < answers.length; k++) {
            FallChain x = maker.make();
            if (first != null) {
                due(what, first.on(x), want);
            }
            List<Call> asked = QUESTIONS.get(k);
            answers[k] = new long[asked.size()];
            for (int i = 0; i < answers[k].length; i++) {
                answers[k][i] = asked.get(i).on(x);
            }
        }
        return answers;
    }

    private static final long[][] FULL = answers(EdgeRefusals::full, null, 0, "");
    private static final long[][] FOUR_STARTS = answers(EdgeRefusals::withFourStarts, null, 0, "");

    private static void changesNothing(String what, Maker maker, long[][] before, Call call, long want) {
        long[][] behind = answers(maker, call, want, what);
        for (int k = 0; k < before.length; k++) {
            for (int i = 0; i < before[k].length; i++) {
                due(what + ": then question " + i + " of bundle " + k, behind[k][i], before[k][i]);
            }
        }
    }

    private static void counts(String what, Maker maker, Call call, int number) {
        FallChain x = maker.make();
        for (int times = 1; times <= 2; times++) {
            call.on(x);
            for (int n = 1; n <= 7; n++) {
                due(what + ": then status(" + (10 + n) + ")", x.status(10 + n), n + (n == -number ? times : 0));
            }
        }
    }

    private static void refused(String what, Maker maker, long[][] before, int number, Call call) {
        changesNothing(what, maker, before, call, number);
        counts(what, maker, call, number);
    }

    private static void refused(String what, int number, Call call) {
        refused(what, EdgeRefusals::full, FULL, number, call);
    }

    /** What answers NONE or 0 without being refused. */
    private static void passes(String what, long want, Call call) {
        changesNothing(what, EdgeRefusals::full, FULL, call, want);
        counts(what, EdgeRefusals::full, call, 0);
    }

    // ---- promise by promise

    private static void put() {
        for (int cell : new int[] {-1, 96, LEAST, GREATEST}) {
            refused("put: -1, no such cell " + cell, -1, x -> x.put(cell, 1, 0, 0));
            refused("put: -1 ahead of -6, kind, cell " + cell, -1, x -> x.put(cell, 0, 0, 0));
            refused("put: -1 ahead of -6, a, cell " + cell, -1, x -> x.put(cell, 2, 4, 0));
            refused("put: -1 ahead of -6, b, cell " + cell, -1, x -> x.put(cell, 4, 0, 0));
        }
        for (int kind : new int[] {-1, 0, 3, 10, 11, LEAST, GREATEST}) {
            refused("put: -6, kind " + kind, -6, x -> x.put(FREE, kind, 0, 1));
        }
        int[][] wrongOnes = {
            {1, -1, 0}, {1, 2, 0}, {2, -1, 0}, {2, 4, 0}, {4, -1, 1}, {4, 4, 1}, {4, 0, 0}, {4, 0, 61}, {6, -1, 1}, {6, 4, 1},
            {6, 0, 0}, {6, 0, 10}, {9, 0, 0}, {9, 2, 0}, {9, 7, 0}, {9, 15, 0}, {9, 17, 0}, {9, -1, 0},
        };
        for (int[] p : wrongOnes) {
            refused("put: -6, kind " + p[0] + ", a " + p[1] + ", b " + p[2], -6, x -> x.put(FREE, p[0], p[1], p[2]));
        }
        for (int kind = 1; kind <= 9; kind++) {
            int on = PIECE[kind];
            refused("put: -6, a domino on a piece of kind " + kind, -6, x -> x.put(on, 1, 0, 0));
            refused("put: -6, a track on a piece of kind " + kind, -6, x -> x.put(on, 9, 3, 0));
            if (kind != 3 && kind != 9) {
                int piece = kind;
                refused("put: -6, kind " + kind + " on a ball", -6, x -> x.put(BALL, piece, 0, 1));
                refused("put: -6, kind " + kind + " on a track with a ball", -6, x -> x.put(TRACK_WITH_BALL, piece, 0, 1));
            }
        }
        refused("put: -6, a track on a track with a ball", -6, x -> x.put(TRACK_WITH_BALL, 9, 10, 0));
        refused("put: -6, a wrong track on a ball", -6, x -> x.put(BALL, 9, 1, 0));
    }

    private static void cords() {
        for (int cell : new int[] {-1, 96, LEAST, GREATEST}) {
            refused("cords: -1, no such first cell " + cell, -1, x -> x.cords(cell, 0, FREE, 0));
            refused("cords: -1, no such second cell " + cell, -1, x -> x.cords(FREE, 0, cell, 0));
            refused("cords: -1 ahead of -6, sides, first cell " + cell, -1, x -> x.cords(cell, 4, FREE, -1));
            refused("cords: -1 ahead of -6, sides, second cell " + cell, -1, x -> x.cords(FREE, 4, cell, -1));
            refused("cords: -1 ahead of -6, alike, cells " + cell, -1, x -> x.cords(cell, 0, cell, 0));
            refused("cords: -1 ahead of -6, a piece, second cell " + cell, -1, x -> x.cords(13, 0, cell, 0));
            refused("cords: -1 ahead of -6, a piece, first cell " + cell, -1, x -> x.cords(cell, 0, 13, 0));
        }
        for (int side : new int[] {-1, 4, LEAST, GREATEST}) {
            refused("cords: -6, first side " + side, -6, x -> x.cords(FREE, side, 90, 0));
            refused("cords: -6, second side " + side, -6, x -> x.cords(FREE, 0, 90, side));
        }
        refused("cords: -6, cells alike", -6, x -> x.cords(FREE, 0, FREE, 1));
        for (int kind = 1; kind <= 9; kind++) {
            int on = PIECE[kind];
            refused("cords: -6, the first on kind " + kind, -6, x -> x.cords(on, 0, FREE, 1));
            refused("cords: -6, the second on kind " + kind, -6, x -> x.cords(FREE, 0, on, 1));
        }
        for (int on : new int[] {BALL, TRACK_WITH_BALL}) {
            refused("cords: -6, the first on the ball in " + on, -6, x -> x.cords(on, 0, FREE, 1));
            refused("cords: -6, the second on the ball in " + on, -6, x -> x.cords(FREE, 0, on, 1));
        }
    }

    private static void ballAndRaze() {
        for (int cell : new int[] {-1, 96, LEAST, GREATEST}) {
            refused("ball: -1, no such cell " + cell, -1, x -> x.ball(cell));
            refused("raze: -1, no such cell " + cell, -1, x -> x.raze(cell));
        }
        for (int kind = 1; kind <= 8; kind++) {
            int on = PIECE[kind];
            refused("ball: -6, on kind " + kind, -6, x -> x.ball(on));
        }
        refused("ball: -6, on a ball", -6, x -> x.ball(BALL));
        refused("ball: -6, on a track with a ball", -6, x -> x.ball(TRACK_WITH_BALL));
    }

    private static void start() {
        for (int cell : new int[] {-1, 96, LEAST, GREATEST}) {
            refused("start: -1, no such cell " + cell, -1, x -> x.start(cell, 0, 0));
            refused("start: -1 ahead of -6, side, cell " + cell, -1, x -> x.start(cell, 4, 0));
            refused("start: -1 ahead of -6, tick, cell " + cell, -1, x -> x.start(cell, 0, 100));
            startOfFour("start: -1 ahead of -7, cell " + cell, -1, x -> x.start(cell, 0, 0));
            startOfFour("start: -1 ahead of -6 and -7, cell " + cell, -1, x -> x.start(cell, -1, -1));
        }
        for (int side : new int[] {-1, 4, LEAST, GREATEST}) {
            refused("start: -6, side " + side, -6, x -> x.start(FREE, side, 0));
            startOfFour("start: -6 ahead of -7, side " + side, -6, x -> x.start(FREE, side, 0));
        }
        for (int tick : new int[] {-1, 100, LEAST, GREATEST}) {
            refused("start: -6, tick " + tick, -6, x -> x.start(FREE, 0, tick));
            startOfFour("start: -6 ahead of -7, tick " + tick, -6, x -> x.start(FREE, 0, tick));
        }
        startOfFour("start: -7, a fifth", -7, x -> x.start(FREE, 0, 0));
        startOfFour("start: -7, a fifth like the first", -7, x -> x.start(13, 3, 0));
    }

    private static void startOfFour(String what, int number, Call call) {
        refused(what, EdgeRefusals::withFourStarts, FOUR_STARTS, number, call);
    }

    private static void row() {
        for (int s : new int[] {-1, 8, LEAST, GREATEST}) {
            refused("row: -1, no such shelf " + s, -1, x -> x.row(s, 0, 1));
            refused("row: -1 ahead of -4, shelf " + s, -1, x -> x.row(s, 0, -1));
            refused("row: -1 ahead of -6, shelf " + s, -1, x -> x.row(s, 4, 1));
            refused("row: -1 ahead of -7, shelf " + s, -1, x -> x.row(s, 0, 101));
        }
        for (int s : new int[] {BYTES, PLAN, EMPTY, LAST_PLAN}) {
            refused("row: -4, size -1, on shelf " + s, -4, x -> x.row(s, 0, -1));
            refused("row: -4, the least size, on shelf " + s, -4, x -> x.row(s, 3, LEAST));
            refused("row: -4 ahead of -6, sort 4, on shelf " + s, -4, x -> x.row(s, 4, -1));
            refused("row: -4 ahead of -6, sort -1, on shelf " + s, -4, x -> x.row(s, -1, -1));
            refused("row: -6, sort -1, on shelf " + s, -6, x -> x.row(s, -1, 1));
            refused("row: -6, sort 4, on shelf " + s, -6, x -> x.row(s, 4, 1));
            refused("row: -6, the least sort, on shelf " + s, -6, x -> x.row(s, LEAST, 0));
            refused("row: -6, the greatest sort, on shelf " + s, -6, x -> x.row(s, GREATEST, 100));
            refused("row: -6 ahead of -7, on shelf " + s, -6, x -> x.row(s, 4, 101));
            refused("row: -7, size 101, on shelf " + s, -7, x -> x.row(s, 0, 101));
            refused("row: -7, the greatest size, on shelf " + s, -7, x -> x.row(s, 3, GREATEST));
        }
    }

    private static void set() {
        for (int s : new int[] {-1, 8, LEAST, GREATEST}) {
            refused("set: -1, no such shelf " + s, -1, x -> x.set(s, 0, 9));
            refused("set: -1 ahead of -5, shelf " + s, -1, x -> x.set(s, -1, 9));
        }
        for (int s : new int[] {PLAN, LAST_PLAN}) {
            refused("set: -2, the plan on shelf " + s, -2, x -> x.set(s, 0, 9));
            refused("set: -2 ahead of -5, the plan on shelf " + s, -2, x -> x.set(s, -1, 9));
        }
        refused("set: -3, nothing", -3, x -> x.set(EMPTY, 0, 9));
        refused("set: -3 ahead of -5", -3, x -> x.set(EMPTY, -1, 9));
        for (int i : new int[] {-1, 5, 100, LEAST, GREATEST}) {
            refused("set: -5, element " + i, -5, x -> x.set(BYTES, i, 9));
        }
    }

    private static void copy() {
        for (int s : new int[] {-1, 8, LEAST, GREATEST}) {
            refused("copy: -1, no such shelf to copy from " + s, -1, x -> x.copy(s, BYTES, 0, 0, 1));
            refused("copy: -1, no such shelf to copy to " + s, -1, x -> x.copy(BYTES, s, 0, 0, 1));
            refused("copy: -1 ahead of -2, from " + s, -1, x -> x.copy(s, PLAN, 0, 0, 1));
            refused("copy: -1 ahead of -2, to " + s, -1, x -> x.copy(PLAN, s, 0, 0, 1));
            refused("copy: -1 ahead of -3, from " + s, -1, x -> x.copy(s, EMPTY, 0, 0, 1));
            refused("copy: -1 ahead of -3, to " + s, -1, x -> x.copy(EMPTY, s, 0, 0, 1));
            refused("copy: -1 ahead of -4, from " + s, -1, x -> x.copy(s, BYTES, 0, 0, -1));
            refused("copy: -1 ahead of -5, to " + s, -1, x -> x.copy(BYTES, s, -1, 0, 1));
        }
        refused("copy: -2, from a plan", -2, x -> x.copy(PLAN, BYTES, 0, 0, 1));
        refused("copy: -2, to a plan", -2, x -> x.copy(BYTES, PLAN, 0, 0, 1));
        refused("copy: -2, from a plan to itself", -2, x -> x.copy(PLAN, PLAN, 0, 0, 0));
        refused("copy: -2, of two sorts", -2, x -> x.copy(BYTES, SHORTS, 0, 0, 1));
        refused("copy: -2, of two sorts, down", -2, x -> x.copy(SIX, PIECES, 0, 0, 1));
        refused("copy: -2 ahead of -3, from a plan", -2, x -> x.copy(PLAN, EMPTY, 0, 0, 1));
        refused("copy: -2 ahead of -3, to a plan", -2, x -> x.copy(EMPTY, PLAN, 0, 0, 1));
        refused("copy: -2 ahead of -4, a plan", -2, x -> x.copy(PLAN, BYTES, 0, 0, -1));
        refused("copy: -2 ahead of -4, two sorts", -2, x -> x.copy(BYTES, SHORTS, 0, 0, -1));
        refused("copy: -2 ahead of -5, a plan", -2, x -> x.copy(BYTES, PLAN, -1, 0, 1));
        refused("copy: -2 ahead of -5, two sorts", -2, x -> x.copy(BYTES, SHORTS, 0, 100, 1));
        refused("copy: -3, from nothing", -3, x -> x.copy(EMPTY, BYTES, 0, 0, 1));
        refused("copy: -3, to nothing", -3, x -> x.copy(BYTES, EMPTY, 0, 0, 1));
        refused("copy: -3, none of nothing to nothing", -3, x -> x.copy(EMPTY, EMPTY, 0, 0, 0));
        refused("copy: -3 ahead of -4", -3, x -> x.copy(EMPTY, BYTES, 0, 0, -1));
        refused("copy: -3 ahead of -5", -3, x -> x.copy(BYTES, EMPTY, -1, 0, 1));
        refused("copy: -4, n -1", -4, x -> x.copy(BYTES, FEW_BYTES, 0, 0, -1));
        refused("copy: -4, the least n", -4, x -> x.copy(BYTES, FEW_BYTES, 0, 0, LEAST));
        refused("copy: -4 ahead of -5, i", -4, x -> x.copy(BYTES, FEW_BYTES, -1, 0, -1));
        refused("copy: -4 ahead of -5, j", -4, x -> x.copy(BYTES, FEW_BYTES, 0, 100, -1));
        int[][] beyond = {
            {-1, 0, 1}, {0, -1, 1}, {-1, 0, 0}, {0, -1, 0}, {5, 0, 1}, {0, 3, 1}, {6, 0, 0}, {0, 4, 0}, {3, 0, 3}, {0, 1, 3},
            {0, 0, 4}, {0, 0, GREATEST}, {1, 1, GREATEST}, {GREATEST, 0, 1}, {0, GREATEST, 1}, {GREATEST, 0, GREATEST},
            {GREATEST, GREATEST, 0}, {LEAST, 0, 1}, {0, LEAST, 1}, {LEAST, LEAST, GREATEST}, {-2, 0, 2},
        };
        for (int[] c : beyond) {
            refused("copy: -5, " + c[0] + ", " + c[1] + ", " + c[2], -5, x -> x.copy(BYTES, FEW_BYTES, c[0], c[1], c[2]));
        }
        refused("copy: -5, beyond the row in itself", -5, x -> x.copy(BYTES, BYTES, 0, 1, 5));
    }

    private static void puts() {
        for (int s : new int[] {-1, 8, LEAST, GREATEST}) {
            refused("puts: -1, no such shelf " + s, -1, x -> x.puts(s));
        }
        refused("puts: -2, a plan", -2, x -> x.puts(PLAN));
        refused("puts: -2, a plan on the last shelf", -2, x -> x.puts(LAST_PLAN));
        refused("puts: -3, nothing", -3, x -> x.puts(EMPTY));
        refused("puts: -6, five elements", -6, x -> x.puts(BYTES));
        refused("puts: -6, three elements", -6, x -> x.puts(FEW_BYTES));
        refused("puts: -6, six elements", -6, x -> x.puts(SIX));
        refused("puts: -6, the second is a cord", -6, x -> x.puts(PIECES));
    }

    /** Of two that puts() would put the second is refused, for each cause; the first, too, stays away. */
    private static void putsOfWhichOneIsRefused() {
        int[][] second = {
            {-1, 1, 0, 0}, {96, 1, 0, 0}, {FREE, 0, 0, 0}, {FREE, 3, 0, 0}, {FREE, 11, 0, 0}, {FREE, 2, 4, 0}, {FREE, 4, 0, 61},
            {13, 1, 0, 0}, {BALL, 1, 0, 0}, {BALL, 10, 0, 0}, {13, 10, 0, 0}, {TRACK_WITH_BALL, 10, 0, 0}, {96, 10, 0, 0},
            {-1, 10, 0, 0}, {82, 8, 0, 0}, {82, 10, 0, 0},
        };
        for (int[] p : second) {
            Maker maker = () -> {
                FallChain x = full();
                fill(x, PIECES, 2, 82, 8, 0, 0, p[0], p[1], p[2], p[3]);
                return x;
            };
            String what = "puts: -6, the second on cell " + p[0] + " of kind " + p[1];
            refused(what, maker, answers(maker, null, 0, ""), -6, x -> x.puts(PIECES));
        }
        Maker ballFirst = () -> {
            FallChain x = full();
            fill(x, PIECES, 2, 82, 10, 0, 0, 82, 1, 0, 0);
            return x;
        };
        refused("puts: -6, a domino on the ball ahead of it", ballFirst, answers(ballFirst, null, 0, ""), -6, x -> x.puts(PIECES));
    }

    private static void keepAndLoad() {
        for (int s : new int[] {-1, 8, LEAST, GREATEST}) {
            refused("keep: -1, no such shelf " + s, -1, x -> x.keep(s));
            refused("load: -1, no such shelf " + s, -1, x -> x.load(s));
        }
        for (int s : new int[] {BYTES, SHORTS, PIECES, SIX}) {
            refused("load: -2, the row on shelf " + s, -2, x -> x.load(s));
        }
        refused("load: -3, nothing", -3, x -> x.load(EMPTY));
    }

    private static void fits() {
        for (int cell : new int[] {-1, 96, LEAST, GREATEST}) {
            refused("fits: -1, no such cell " + cell, -1, x -> x.fits(cell, 26, -1));
            refused("fits: -1 ahead of no bell, cell " + cell, -1, x -> x.fits(cell, 13, -1));
        }
        for (int kind = 1; kind <= 9; kind++) {
            int on = PIECE[kind];
            refused("fits: -6, the cell has kind " + kind, -6, x -> x.fits(on, 26, -1));
            refused("fits: -6 ahead of no bell, the cell has kind " + kind, -6, x -> x.fits(on, FREE, -1));
        }
        refused("fits: -6, the cell has a ball", -6, x -> x.fits(BALL, 26, -1));
        refused("fits: -6, the cell has a track with a ball", -6, x -> x.fits(TRACK_WITH_BALL, 26, -1));
    }

    private static void tune() {
        for (int s : new int[] {-1, 8, LEAST, GREATEST}) {
            refused("tune: -1, no such shelf " + s, -1, x -> x.tune(s));
        }
        refused("tune: -2, a plan", -2, x -> x.tune(PLAN));
        refused("tune: -2, a plan on the last shelf", -2, x -> x.tune(LAST_PLAN));
        refused("tune: -3, nothing", -3, x -> x.tune(EMPTY));
    }

    private static void whatIsAnsweredWithoutARefusal() {
        for (int cell : new int[] {-1, 96, LEAST, GREATEST}) {
            passes("at: no such cell " + cell, -1, x -> x.at(cell, 0));
            passes("ended: no such cell " + cell, -1, x -> x.ended(cell, 0));
            passes("why: no such cell " + cell, -1, x -> x.why(cell, 0));
            passes("met: no such cell " + cell, 0, x -> x.met(cell, -1) ? 1 : 0);
        }
        for (int what : new int[] {-1, 6, LEAST, GREATEST}) {
            passes("at: another what " + what, -1, x -> x.at(13, what));
            passes("ran: another what " + what, -1, x -> x.ran(what));
            passes("strike: another what " + what, -1, x -> x.strike(0, what));
            passes("ended: another what " + what, -1, x -> x.ended(13, what));
            passes("status: another what " + what, -1, x -> x.status(what));
            passes("strike: no such one " + what, -1, x -> x.strike(what, 0));
            passes("why: no such one " + what, -1, x -> x.why(26, what));
        }
        for (int i : new int[] {-1, 70, LEAST, GREATEST}) {
            passes("weak: " + i, -1, x -> x.weak(i));
            passes("fit: " + i, -1, x -> x.fit(i));
            passes("fewestPiece: " + i, -1, x -> x.fewestPiece(i));
            passes("element: " + i, 0, x -> x.element(BYTES, i));
        }
        for (int s : new int[] {-1, 8, LEAST, GREATEST}) {
            passes("holds: no such shelf " + s, -1, x -> x.holds(s));
            passes("element: no such shelf " + s, 0, x -> x.element(s, 0));
        }
        passes("holds: nothing", -1, x -> x.holds(EMPTY));
        passes("element: of a plan", 0, x -> x.element(PLAN, 0));
        passes("element: of nothing", 0, x -> x.element(EMPTY, 0));
        passes("met: no bell", 0, x -> x.met(13, -1) ? 1 : 0);
        passes("met: a wish that is met", 1, x -> x.met(26, 3) ? 1 : 0);
        passes("tune: of a row", 0, x -> x.tune(BYTES));
        passes("raze: nothing", 0, x -> x.raze(FREE));
    }

    /** Wishes that are not met, or of no bell, are no refusals, though some answer -1. */
    private static void wishesOfNoBellAreNotRefused() {
        for (int bell : new int[] {13, FREE, -1, 96, LEAST, GREATEST}) {
            counts("fragile: no bell in " + bell, EdgeRefusals::full, x -> {
                due("fragile: no bell in " + bell, x.fragile(bell, -1), -1);
                return 0;
            }, 0);
            counts("fits: no bell in " + bell, EdgeRefusals::full, x -> {
                due("fits: no bell in " + bell, x.fits(FREE, bell, -1), 0);
                return 0;
            }, 0);
            counts("fewest: no bell in " + bell, EdgeRefusals::full, x -> {
                due("fewest: no bell in " + bell, x.fewest(bell, -1), -1);
                return 0;
            }, 0);
        }
    }

    // ---- any numbers

    private static final int[] EDGES = {LEAST, -1, 0, 3, 8, 96, GREATEST};
    private static final int CALLS_ON_ONE = 400;

    private interface CallOfNumbers {
        long on(FallChain x, int[] g);
    }

    /** Each row of so many edges as arguments: nothing is thrown, and what is below 0 is a number that the promise names. */
    private static void anyNumbers(String what, int count, CallOfNumbers call, int... named) {
        int rows = 1;
        for (int i = 0; i < count; i++) {
            rows *= EDGES.length;
        }
        FallChain x = full();
        int[] g = new int[count];
        for (int row = 0; row < rows; row++) {
            if (row % CALLS_ON_ONE == 0) {
                x = full();
            }
            int rest = row;
            for (int i = 0; i < count; i++) {
                g[i] = EDGES[rest % EDGES.length];
                rest /= EDGES.length;
            }
            long answer = call.on(x, g);
            boolean right = answer >= 0;
            for (int n : named) {
                right |= answer == n;
            }
            due(what + " of " + Arrays.toString(g) + ", not named: ", right ? 0 : answer, 0);
        }
    }

    private static void eachCallWithAnyNumbers() {
        anyNumbers("put", 4, (x, g) -> x.put(g[0], g[1], g[2], g[3]), -1, -6);
        anyNumbers("cords", 4, (x, g) -> x.cords(g[0], g[1], g[2], g[3]), -1, -6);
        anyNumbers("ball", 1, (x, g) -> x.ball(g[0]), -1, -6);
        anyNumbers("raze", 1, (x, g) -> x.raze(g[0]), -1);
        anyNumbers("start", 3, (x, g) -> x.start(g[0], g[1], g[2]), -1, -6, -7);
        anyNumbers("noStarts", 0, (x, g) -> x.noStarts());
        anyNumbers("row", 3, (x, g) -> x.row(g[0], g[1], g[2]), -1, -4, -6, -7);
        anyNumbers("set", 3, (x, g) -> x.set(g[0], g[1], g[2]), -1, -2, -3, -5);
        anyNumbers("copy", 5, (x, g) -> x.copy(g[0], g[1], g[2], g[3], g[4]), -1, -2, -3, -4, -5);
        anyNumbers("element", 2, (x, g) -> Math.abs(x.element(g[0], g[1])));
        anyNumbers("holds", 1, (x, g) -> x.holds(g[0]), -1);
        anyNumbers("puts", 1, (x, g) -> x.puts(g[0]), -1, -2, -3, -6);
        anyNumbers("keep", 1, (x, g) -> x.keep(g[0]), -1);
        anyNumbers("load", 1, (x, g) -> x.load(g[0]), -1, -2, -3);
        anyNumbers("at", 2, (x, g) -> x.at(g[0], g[1]), -1);
        anyNumbers("run", 0, (x, g) -> x.run());
        anyNumbers("ran", 1, (x, g) -> x.ran(g[0]), -1);
        anyNumbers("strike", 2, (x, g) -> x.strike(g[0], g[1]), -1);
        anyNumbers("ended", 2, (x, g) -> x.ended(g[0], g[1]), -1);
        anyNumbers("why", 2, (x, g) -> x.why(g[0], g[1]), -1);
        anyNumbers("met", 2, (x, g) -> x.met(g[0], g[1]) ? 1 : 0);
        anyNumbers("fragile", 2, (x, g) -> x.fragile(g[0], g[1]), -1);
        anyNumbers("weak", 1, (x, g) -> x.weak(g[0]), -1);
        anyNumbers("fits", 3, (x, g) -> x.fits(g[0], g[1], g[2]), -1, -6);
        anyNumbers("fit", 1, (x, g) -> x.fit(g[0]), -1);
        anyNumbers("fewest", 2, (x, g) -> x.fewest(g[0], g[1]), -1);
        anyNumbers("fewestPiece", 1, (x, g) -> x.fewestPiece(g[0]), -1);
        anyNumbers("tune", 1, (x, g) -> x.tune(g[0]), -1, -2, -3);
        anyNumbers("status", 1, (x, g) -> x.status(g[0]), -1);
    }

    public static void main(String[] args) {
        put();
        cords();
        ballAndRaze();
        start();
        row();
        set();
        copy();
        puts();
        putsOfWhichOneIsRefused();
        keepAndLoad();
        fits();
        tune();
        whatIsAnsweredWithoutARefusal();
        wishesOfNoBellAreNotRefused();
        eachCallWithAnyNumbers();
        System.out.println(wrong == 0 ? "all answers are as due" : wrong + " answers are not as due");
        if (wrong != 0) {
            System.exit(1);
        }
    }
}
