import java.util.ArrayList;
import java.util.List;

/** The edges of wishes: their ticks, shifts at the edge of the plan, all forms that fit, and none, one and two pieces. */
public final class EdgeWishes {
    private static final int LEAST = Integer.MIN_VALUE;
    private static final int GREATEST = Integer.MAX_VALUE;
    private static final int ANY = FallChain.NONE;

    private static int wrong = 0;

    private static void due(String what, long got, long want) {
        if (got != want) {
            wrong++;
            System.out.println(what + " answered " + got + ", due is " + want);
        }
    }

    private static int next(int cell, int side) {
        int x = cell % 12 + (side == 1 ? 1 : side == 3 ? -1 : 0);
        int y = cell / 12 + (side == 2 ? 1 : side == 0 ? -1 : 0);
        return x < 0 || x > 11 || y < 0 || y > 7 ? -1 : 12 * y + x;
    }

    private static int far(int side) {
        return (side + 2) % 4;
    }

    private static int met(FallChain x, int bell, int tick) {
        return x.met(bell, tick) ? 1 : 0;
    }

    private static void weak(String when, FallChain x, int bell, int tick, int... shifts) {
        due(when + ": fragile", x.fragile(bell, tick), shifts.length);
        for (int i = 0; i < shifts.length; i++) {
            due(when + ": weak(" + i + ")", x.weak(i), shifts[i]);
        }
        for (int i : new int[] {-1, shifts.length, 384, LEAST, GREATEST}) {
            due(when + ": weak(" + i + ")", x.weak(i), -1);
        }
    }

    private static void fit(String when, FallChain x, int cell, int bell, int tick, int... pieces) {
        due(when + ": fits", x.fits(cell, bell, tick), pieces.length);
        for (int i = 0; i < pieces.length; i++) {
            due(when + ": fit(" + i + ")", x.fit(i), pieces[i]);
        }
        for (int i : new int[] {-1, pieces.length, 62, LEAST, GREATEST}) {
            due(when + ": fit(" + i + ")", x.fit(i), -1);
        }
    }

    private static void fewest(String when, FallChain x, int bell, int tick, int... pieces) {
        due(when + ": fewest", x.fewest(bell, tick), pieces.length);
        piecesAre(when, x, pieces);
    }

    private static void noFewest(String when, FallChain x, int bell, int tick) {
        due(when + ": fewest", x.fewest(bell, tick), -1);
        piecesAre(when, x);
    }

    private static void piecesAre(String when, FallChain x, int... pieces) {
        for (int i = 0; i < pieces.length; i++) {
            due(when + ": fewestPiece(" + i + ")", x.fewestPiece(i), pieces[i]);
        }
        for (int i : new int[] {-1, pieces.length, 2, 3, LEAST, GREATEST}) {
            due(when + ": fewestPiece(" + i + ")", x.fewestPiece(i), -1);
        }
    }

    /** Five timers in a row, from a start in tick 99: cell 89 is struck from side 3 in tick 399 at the latest. */
    private static FallChain struckIn(int tick) {
        FallChain x = new FallChain();
        int rest = tick - 99;
        for (int k = 0; k < 5; k++) {
            int wait = Math.min(60, rest - (4 - k));
            x.put(84 + k, 4, 1, wait);
            rest -= wait;
        }
        x.start(84, 3, 99);
        return x;
    }

    // ---- met

    private static void theTicksOfAWish() {
        for (int tick : new int[] {0, 1, 98, 99}) {
            FallChain x = new FallChain();
            x.put(40, 8, 0, 0);
            x.start(40, 0, tick);
            x.start(40, 0, 99);
            due("rung first in " + tick + ": in any", met(x, 40, ANY), 1);
            for (int wished = -3; wished <= 101; wished++) {
                if (wished != ANY) {
                    due("rung first in " + tick + ": in " + wished, met(x, 40, wished), wished == tick ? 1 : 0);
                }
            }
            due("in the least tick", met(x, 40, LEAST), 0);
            due("in the greatest tick", met(x, 40, GREATEST), 0);
        }
    }

    private static void theLastTickOfAWish() {
        FallChain x = struckIn(399);
        x.put(89, 8, 0, 0);
        due("in any", met(x, 89, ANY), 1);
        due("in 399", met(x, 89, 399), 1);
        due("in 398", met(x, 89, 398), 0);
        due("in 400", met(x, 89, 400), 0);
        weak("in 399, each shift of a timer", x, 89, 399, 672, 680, 688, 696, 704);
        x.raze(89);
        x.put(89, 2, 1, 0);
        x.put(90, 8, 0, 0);
        due("a bell that would ring in 400: in any", met(x, 90, ANY), 0);
        due("a bell that would ring in 400: in 400", met(x, 90, 400), 0);
        due("a bell that would ring in 400: in 399", met(x, 90, 399), 0);
        due("a bell that would ring in 400: fragile", x.fragile(90, ANY), -1);
        x.raze(89);
        fit("a gap that would be struck in 399", x, 89, 90, ANY);
        noFewest("a gap that would be struck in 399", x, 90, ANY);
        x = struckIn(398);
        x.put(90, 8, 0, 0);
        fit("a gap that is struck in 398", x, 89, 90, 399, 2010, 4011, 5000, 6011);
        fewest("a gap that is struck in 398", x, 90, 399, 8921);
        x = struckIn(390);
        x.put(90, 8, 0, 0);
        fit("a gap that is struck in 390", x, 89, 90, 399, 4019);
    }

    /** The 1,000th strike still rings, the 1,001st does not. */
    private static void theLastStrikeOfAWish() {
        FallChain x = new FallChain();
        int[][] levers = {{0, 1}, {1, 2}, {13, 3}, {12, 0}};
        for (int[] p : levers) {
            x.put(p[0], 2, p[1], 0);
        }
        for (int k = 0; k < 3; k++) {
            x.start(0, 3, 0);
        }
        int[] waits = {60, 60, 60, 40, 6, 6};
        for (int k = 0; k < 6; k++) {
            x.put(60 + k, 4, 1, waits[k]);
        }
        x.put(66, 8, 0, 0);
        x.start(60, 3, 99);
        due("the 1,000th", met(x, 66, 331), 1);
        due("the 1,000th, in any", met(x, 66, ANY), 1);
        x.raze(65);
        x.put(65, 4, 1, 7);
        due("behind the 1,000th", met(x, 66, 332), 0);
        due("behind the 1,000th, in any", met(x, 66, ANY), 0);
        noFewest("behind the 1,000th", x, 66, ANY);
    }

    private static void noBellThere() {
        int[] as = {0, 1, 2, 0, 3, 0, 1, 0, 0, 6};
        for (int kind : new int[] {1, 2, 4, 5, 6, 7, 9}) {
            FallChain x = new FallChain();
            x.put(40, kind, as[kind], 1);
            x.start(40, 0, 0);
            noBellIn("kind " + kind, x, 40);
        }
        FallChain x = new FallChain();
        x.cords(40, 0, 50, 0);
        x.ball(60);
        x.start(40, 0, 0);
        x.start(60, 0, 0);
        noBellIn("a cord", x, 40);
        noBellIn("a ball", x, 60);
        noBellIn("nothing", x, 20);
        for (int cell : new int[] {-1, 96, LEAST, GREATEST}) {
            noBellIn("no such cell", x, cell);
        }
        x.put(40 + 12, 8, 0, 0);
        x.run();
        x.raze(52);
        noBellIn("a bell that was there", x, 52);
    }

    private static void noBellIn(String what, FallChain x, int cell) {
        due(what + ": met", met(x, cell, ANY), 0);
        due(what + ": met in tick 0", met(x, cell, 0), 0);
        due(what + ": fragile", x.fragile(cell, ANY), -1);
        due(what + ": weak", x.weak(0), -1);
        due(what + ": fits", x.fits(10, cell, ANY), 0);
        due(what + ": fit", x.fit(0), -1);
        noFewest(what, x, cell, ANY);
        for (int number = 11; number <= 17; number++) {
            due(what + ": refusals", x.status(number), 0);
        }
    }

    private static void aBellThatIsNotRung() {
        FallChain x = new FallChain();
        x.put(40, 8, 0, 0);
        x.put(41, 8, 0, 0);
        x.start(41, 0, 0);
        due("the other one is", met(x, 41, 0), 1);
        due("met", met(x, 40, ANY), 0);
        due("met in tick 0", met(x, 40, 0), 0);
        due("fragile", x.fragile(40, ANY), -1);
        fit("not rung", x, 39, 40, ANY);
        noFewest("not rung", x, 40, ANY);
    }

    // ---- shifts

    /** A lever is struck by a start and leads to a bell: each shift of it is one with which the bell isn't rung. */
    private static void shiftsOnEachCell() {
        for (int cell = 0; cell < 96; cell++) {
            for (int to = 0; to < 4; to++) {
                int bell = next(cell, to);
                if (bell >= 0) {
                    FallChain x = new FallChain();
                    x.put(cell, 2, to, 0);
                    x.put(bell, 8, 0, 0);
                    x.start(cell, far(to), 0);
                    weak("a lever on " + cell + " to " + to, x, bell, ANY, free(cell, to, 0));
                    FallChain y = new FallChain();
                    y.ball(cell);
                    y.put(bell, 8, 0, 0);
                    y.start(cell, far(to), 0);
                    weak("a ball on " + cell + " to " + to, y, bell, ANY, free(cell, to, 4));
                }
            }
        }
    }

    private static int[] free(int cell, int bellSide, int ball) {
        int count = 0;
        for (int side = 0; side < 4; side++) {
            count += side != bellSide && next(cell, side) >= 0 ? 1 : 0;
        }
        int[] shifts = new int[count];
        int i = 0;
        for (int side = 0; side < 4; side++) {
            if (side != bellSide && next(cell, side) >= 0) {
                shifts[i] = 8 * cell + ball + side;
                i++;
            }
        }
        return shifts;
    }

    private static void shiftsOnlyToWhatHasNothing() {
        int[] as = {0, 1, 2, 0, 3, 0, 1, 0, 0, 6};
        for (int kind = 1; kind <= 9; kind++) {
            for (int side : new int[] {0, 2, 3}) {
                FallChain x = new FallChain();
                x.put(40, 2, 1, 0);
                x.put(41, 8, 0, 0);
                x.start(40, 3, 0);
                int at = next(40, side);
                if (kind == 3) {
                    x.cords(at, 0, 90, 0);
                } else {
                    x.put(at, kind, as[kind], 1);
                }
                int[] left = side == 0 ? new int[] {322, 323} : side == 2 ? new int[] {320, 323} : new int[] {320, 322};
                weak("kind " + kind + " on side " + side, x, 41, ANY, left);
                if (kind == 9) {
                    x.ball(at);
                    weak("a ball on a track on side " + side, x, 41, ANY, left);
                    x.raze(at);
                    x.ball(at);
                    weak("a ball on side " + side, x, 41, ANY, left);
                }
            }
        }
    }

    /** Domino 40 reaches bell 42 over the gap on 41; what is shifted from 29 into the gap takes the strike. */
    private static FallChain gapBelow29() {
        FallChain x = new FallChain();
        x.put(40, 1, 1, 0);
        x.put(42, 8, 0, 0);
        x.start(40, 3, 0);
        return x;
    }

    private static void allButBellsAreShifted() {
        int[] as = {0, 1, 2, 0, 3, 0, 1, 0, 0, 6};
        int[] domino = {320, 321, 322, 323};
        weak("the gap alone", gapBelow29(), 42, 2, domino);
        for (int kind : new int[] {1, 2, 4, 5, 6, 7, 9}) {
            FallChain x = gapBelow29();
            x.put(29, kind, as[kind], 1);
            weak("kind " + kind, x, 42, 2, 8 * 29 + 2, 320, 321, 322, 323);
        }
        FallChain x = gapBelow29();
        x.put(29, 8, 0, 0);
        weak("a bell", x, 42, 2, domino);
        x = gapBelow29();
        x.cords(29, 0, 90, 0);
        weak("a cord", x, 42, 2, 8 * 29 + 2, 320, 321, 322, 323);
        x = gapBelow29();
        x.ball(29);
        weak("a ball", x, 42, 2, 8 * 29 + 4 + 2, 320, 321, 322, 323);
        x.put(29, 9, 5, 0);
        weak("a ball on a track", x, 42, 2, 8 * 29 + 4 + 2, 320, 321, 322, 323);
        due("the track stays in the plan", x.at(29, 0), 9);
        due("the ball, too", x.at(29, 3), 1);
    }

    private static void theTrackStaysUnderABallThatIsShifted() {
        // The ball from 26 is held up by the one on the bend on 28, and the start in tick 9 rings the bell in tick 10. With
        // the ball shifted away, the bend that stays leads the other one down on the lever, and the bell rings in tick 4.
        FallChain x = new FallChain();
        x.put(28, 9, 12, 0);
        x.ball(28);
        x.ball(26);
        x.put(40, 2, 1, 0);
        x.put(41, 8, 0, 0);
        x.start(26, 3, 0);
        x.start(40, 0, 9);
        weak("the ball on a bend", x, 41, 10, 228, 229, 231, 322, 323);
    }

    private static void noBallIsShiftedOntoATrack() {
        // The ball from 38 goes down by the bend on 40 to the bell; a ball on the bend would hold it up.
        FallChain x = new FallChain();
        x.put(40, 9, 12, 0);
        x.ball(38);
        x.ball(28);
        x.put(52, 8, 0, 0);
        x.start(38, 3, 0);
        weak("a ball above a bend", x, 52, 3, 308, 309, 310, 311, 321, 323);
        due("on the bend it would hold it up", holdsUp(), 0);
    }

    private static int holdsUp() {
        FallChain x = new FallChain();
        x.put(40, 9, 12, 0);
        x.ball(38);
        x.ball(40);
        x.put(52, 8, 0, 0);
        x.start(38, 3, 0);
        return met(x, 52, ANY);
    }

    private static void cordsStayTiedAsTheyAreShifted() {
        // Either cord can be shifted; where it comes to be, the other one still belongs to it.
        FallChain x = new FallChain();
        x.cords(40, 1, 60, 1);
        x.put(41, 8, 0, 0);
        x.put(29, 2, 2, 0);
        x.put(53, 2, 0, 0);
        x.put(61, 8, 0, 0);
        x.start(60, 0, 0);
        // From 28 the cord leads to the lever on 29, from 52 to that on 53: the bell rings a tick later.
        weak("in any tick", x, 41, ANY, 323, 480, 482);
        weak("in tick 1", x, 41, 1, 320, 322, 323, 480, 482);
        due("the plan's tie", x.at(40, 4), 60);
        due("the plan's other tie", x.at(60, 4), 40);
        // Where a start strikes the cord that was shifted, it pulls the other one from there, too.
        FallChain y = new FallChain();
        y.cords(40, 0, 60, 1);
        y.put(61, 8, 0, 0);
        for (int cell : new int[] {40, 41, 52}) {
            y.start(cell, 2, 0);
        }
        weak("struck where it is shifted to", y, 61, ANY, 320, 323, 480, 482);
        y.start(28, 2, 0);
        weak("and on one more side", y, 61, ANY, 323, 480, 482);
    }

    /** What is shifted down is struck a tick earlier there, and leads round a lever: so the bell rings in the same tick. */
    private static void whatIsShiftedKeepsItsAAndB() {
        FallChain x = new FallChain();
        x.put(40, 4, 1, 7);
        x.put(41, 8, 0, 0);
        x.put(53, 2, 0, 0);
        x.start(40, 3, 1);
        x.start(52, 3, 0);
        weak("a timer", x, 41, 8, 320, 323);
        FallChain y = new FallChain();
        y.put(40, 6, 1, 2);
        y.put(41, 8, 0, 0);
        y.put(53, 2, 0, 0);
        y.start(40, 3, 1);
        y.start(40, 3, 2);
        y.start(52, 3, 0);
        y.start(52, 3, 1);
        // On 52 the lever leads the starts there to the bucket.
        weak("a bucket", y, 41, 3, 320, 323, 427);
    }

    private static void fromNoneToManyShifts() {
        FallChain x = new FallChain();
        x.put(40, 8, 0, 0);
        x.put(60, 1, 0, 0);
        x.ball(61);
        x.start(40, 0, 0);
        weak("none that matters", x, 40, ANY);
        FallChain y = new FallChain();
        int[] cells = {36, 38, 40, 42, 44};
        for (int cell : cells) {
            y.put(cell, 1, 1, 0);
        }
        y.put(46, 8, 0, 0);
        y.start(36, 3, 0);
        int[] all = new int[19];
        int i = 0;
        for (int cell : cells) {
            for (int side = 0; side < (cell == 36 ? 3 : 4); side++) {
                all[i] = 8 * cell + side;
                i++;
            }
        }
        weak("each of a row of dominoes", y, 46, ANY, all);
        weak("each of a row of dominoes, in tick 10", y, 46, 10, all);
        due("the wish is not met", y.fragile(46, 9), -1);
        due("no shift of that", y.weak(0), -1);
        weak("each once more", y, 46, 10, all);
        y.raze(40);
        due("those of the latest fragile()", y.weak(18), all[18]);
        due("the plan is broken", y.fragile(46, ANY), -1);
        due("none are told", y.weak(0), -1);
    }

    /** Dominoes with gaps to and fro through the odd rows; what stands beside a gap breaks the chain if it is shifted there. */
    private static List<int[]> dominoesToAndFro() {
        List<int[]> pieces = new ArrayList<>();
        int[][] dominoes = {{0, 2, 4, 6, 8, 10}, {2, 4, 6, 8, 10}, {1, 2, 4, 6, 8, 10}, {2, 4, 6, 8, 10}};
        int[][] turns = {{23, 2, 2}, {35, 1, 0}, {47, 2, 3}, {36, 2, 2}, {48, 1, 0}, {60, 2, 1}, {71, 2, 2}, {83, 1, 0}, {95, 2, 3}};
        for (int row = 0; row < 4; row++) {
            for (int x : dominoes[row]) {
                pieces.add(new int[] {12 * (2 * row + 1) + x, 1, 1});
            }
            for (int x = 1; x <= 9; x += 2) {
                pieces.add(new int[] {24 * row + x, 1, 0});
            }
        }
        pieces.addAll(List.of(turns));
        pieces.add(new int[] {84, 8, 0});
        return pieces;
    }

    private static FallChain with(List<int[]> pieces, int from, int to) {
        FallChain x = new FallChain();
        for (int[] p : pieces) {
            due("made: kind " + p[1], x.put(p[0] == from ? to : p[0], p[1], p[2], 0), 1);
        }
        x.start(12, 3, 0);
        return x;
    }

    private static void moreThanAHundredShifts() {
        List<int[]> pieces = dominoesToAndFro();
        int[] kinds = new int[96];
        for (int[] p : pieces) {
            kinds[p[0]] = p[1];
        }
        List<Integer> due = new ArrayList<>();
        for (int cell = 0; cell < 96; cell++) {
            for (int side = 0; side < 4; side++) {
                int to = next(cell, side);
                boolean shift = kinds[cell] != 0 && kinds[cell] != 8 && to >= 0 && kinds[to] == 0;
                if (shift && met(with(pieces, cell, to), 84, ANY) == 0) {
                    due.add(8 * cell + side);
                }
            }
        }
        due("more than a hundred", due.size() > 100 ? 1 : 0, 1);
        int[] shifts = new int[due.size()];
        for (int i = 0; i < shifts.length; i++) {
            shifts[i] = due.get(i);
        }
        weak("dominoes to and fro", with(pieces, 0, 0), 84, ANY, shifts);
    }

    // ---- fits

    private static int[] allForms() {
        List<Integer> forms = new ArrayList<>(List.of(1000, 1010, 2000, 2010, 2020, 2030));
        for (int a = 0; a <= 3; a++) {
            for (int b = 1; b <= 9; b++) {
                forms.add(4000 + 10 * a + b);
            }
        }
        forms.add(5000);
        for (int a = 0; a <= 3; a++) {
            for (int b = 1; b <= 3; b++) {
                forms.add(6000 + 10 * a + b);
            }
        }
        forms.addAll(List.of(7000, 9030, 9050, 9060, 9090, 9100, 9120));
        int[] all = new int[forms.size()];
        for (int i = 0; i < all.length; i++) {
            all[i] = forms.get(i);
        }
        return all;
    }

    private static void allThatFits() {
        int[] all = allForms();
        due("all forms", all.length, 62);
        for (int cell = 0; cell < 96; cell++) {
            if (cell != 40) {
                FallChain x = new FallChain();
                x.put(40, 8, 0, 0);
                x.start(40, 0, 0);
                fit("out of the way, on " + cell, x, cell, 40, 0, all);
                fit("in another tick, on " + cell, x, cell, 40, 1);
                due("nothing stays on " + cell, x.at(cell, 0), 0);
            }
        }
    }

    private static void timersOf9AndBucketsOf3() {
        FallChain x = new FallChain();
        x.put(41, 8, 0, 0);
        x.start(40, 3, 0);
        for (int tick = 3; tick <= 9; tick++) {
            fit("a timer to tick " + tick, x, 40, 41, tick, 4010 + tick);
        }
        fit("a timer to tick 1, and more", x, 40, 41, 1, 2010, 4011, 5000, 6011);
        fit("a timer to tick 2, and a domino", x, 40, 41, 2, 1010, 4012);
        fit("to tick 10", x, 40, 41, 10);
        fit("to tick 0", x, 40, 41, 0);
        x.start(40, 1, 20);
        x.start(40, 1, 30);
        fit("a bucket's second", x, 40, 41, 21, 6012);
        fit("a bucket's third", x, 40, 41, 31, 6013);
        x.start(40, 0, 40);
        fit("a bucket's fourth: a lever, too, was struck ahead", x, 40, 41, 41);
    }

    private static void whatFitsAndRefusals() {
        FallChain x = new FallChain();
        due("no fits() yet", x.fit(0), -1);
        due("a refused one", x.fits(96, 41, 0), -1);
        due("then none", x.fit(0), -1);
        x.put(41, 8, 0, 0);
        x.start(40, 3, 0);
        fit("one", x, 40, 41, 9, 4019);
        due("refused: no such cell", x.fits(96, 41, 8), -1);
        due("refused: no such cell, -1", x.fits(-1, 41, 8), -1);
        due("refused: the bell's own cell", x.fits(41, 41, 8), -6);
        due("the latest that was not refused", x.fit(0), 4019);
        due("and no more", x.fit(1), -1);
        fit("none", x, 40, 41, 10);
        fit("one again", x, 40, 41, 9, 4019);
        fit("no bell there", x, 40, 40, ANY);
        fit("one again", x, 40, 41, 9, 4019);
        fit("no such cell for a bell", x, 40, 96, ANY);
        fit("no such cell for a bell, -1", x, 40, -1, ANY);
        due("refusals -1", x.status(11), 3);
        due("refusals -6", x.status(16), 1);
        x.ball(60);
        x.put(61, 9, 3, 0);
        due("refused: a ball", x.fits(60, 41, 9), -6);
        due("refused: a track", x.fits(61, 41, 9), -6);
        due("the latest was of none", x.fit(0), -1);
    }

    // ---- fewest

    private static void noneOneAndTwoPieces() {
        FallChain x = new FallChain();
        due("no fewest() yet", x.fewestPiece(0), -1);
        x.put(40, 8, 0, 0);
        noFewest("no start", x, 40, ANY);
        x.start(40, 3, 5);
        fewest("none", x, 40, ANY);
        fewest("none, by its tick", x, 40, 5);
        noFewest("another tick", x, 40, 4);
        x.noStarts();
        x.start(39, 3, 0);
        fewest("one", x, 40, ANY, 3911);
        fewest("one, in tick 1", x, 40, 1, 3921);
        fewest("one, in tick 2", x, 40, 2, 3911);
        noFewest("in tick 0", x, 40, 0);
        noFewest("in tick 3", x, 40, 3);
        x.noStarts();
        x.start(37, 3, 0);
        fewest("two", x, 40, ANY, 3711, 3811);
        fewest("two, in tick 4", x, 40, 4, 3711, 3811);
        fewest("two, in tick 3", x, 40, 3, 3721, 3811);
        noFewest("in tick 2", x, 40, 2);
        noFewest("in tick 5", x, 40, 5);
        // From 36 a domino reaches 37 or, over it, 38: so a third piece is due.
        x.noStarts();
        x.start(36, 3, 0);
        noFewest("three", x, 40, ANY);
        x.put(37, 1, 1, 0);
        fewest("two again", x, 40, ANY, 3611, 3811);
        due("the plan stays", x.at(36, 0) + x.at(38, 0) + x.at(39, 0), 0);
    }

    /** In each cell that has a start a piece of the least number does, next to the bell or over a gap. */
    private static void onePieceOnEachCell() {
        for (int cell = 0; cell < 96; cell++) {
            for (int to = 0; to < 4; to++) {
                int bell = next(cell, to);
                if (bell >= 0) {
                    FallChain x = new FallChain();
                    x.put(bell, 8, 0, 0);
                    x.start(cell, far(to), 0);
                    fewest("on " + cell + " to " + to, x, bell, 1, 100 * cell + 20 + to);
                    fewest("on " + cell + " to " + to, x, bell, 2, 100 * cell + 10 + to % 2);
                    int behind = next(bell, to);
                    x.raze(bell);
                    if (behind >= 0) {
                        x.put(behind, 8, 0, 0);
                        fewest("over a gap from " + cell, x, behind, ANY, 100 * cell + 10 + to % 2);
                    }
                }
            }
        }
    }

    private static void theLeastOfSeveralRows() {
        // The bucket tips by its second strike, so both starts must be led to it, in either order.
        FallChain x = new FallChain();
        x.put(31, 6, 1, 2);
        x.put(32, 8, 0, 0);
        x.start(43, 2, 0);
        x.start(30, 3, 0);
        fewest("in any tick", x, 32, ANY, 3011, 4310);
        fewest("in tick 3", x, 32, 3, 3011, 4310);
        fewest("in tick 2", x, 32, 2, 3021, 4320);
        noFewest("in tick 4", x, 32, 4);
        x.noStarts();
        x.start(30, 3, 0);
        x.start(43, 2, 1);
        fewest("a later start, in tick 4", x, 32, 4, 3011, 4310);
        fewest("a later start, in tick 3", x, 32, 3, 3011, 4320);
        noFewest("a later start, in tick 2", x, 32, 2);
    }

    private static void theLeastAndTheGreatestPieces() {
        FallChain x = new FallChain();
        x.put(13, 8, 0, 0);
        x.start(0, 0, 0);
        fewest("a domino in the first cell, then a lever", x, 13, 3, 10, 1221);
        fewest("levers in the first cell and beside it", x, 13, 2, 21, 122);
        x.raze(13);
        x.noStarts();
        x.put(82, 8, 0, 0);
        x.start(95, 2, 0);
        fewest("a domino in the last cell, then a lever", x, 82, 3, 9510, 8323);
        x.start(83, 2, 0);
        x.start(94, 2, 0);
        fewest("one in the last row but one", x, 82, 1, 8323);
        x.noStarts();
        x.start(95, 1, 0);
        fewest("to the side, then up", x, 82, 2, 9520, 8323);
        x.raze(82);
        x.put(12, 8, 0, 0);
        x.noStarts();
        x.start(1, 1, 0);
        fewest("the second in the first cell", x, 12, 3, 111, 22);
    }

    private static void onlyOnCellsThatAreFreeInThePlan() {
        // The ball that lay on 40 has left it as the start there is lost.
        FallChain x = new FallChain();
        x.ball(40);
        x.put(52, 8, 0, 0);
        x.start(40, 3, 0);
        x.start(40, 0, 20);
        x.run();
        due("lost", x.strike(1, 4), 1);
        noFewest("on 40", x, 52, ANY);
        x.raze(40);
        fewest("on 40 without the ball", x, 52, ANY, 4010);
        fewest("on 40 without the ball, in tick 1", x, 52, 1, 4022);
        // On a track no strike is lost.
        x.put(40, 9, 5, 0);
        noFewest("on a track", x, 52, ANY);
        // The strike of a domino over a gap is not lost in the gap.
        FallChain y = new FallChain();
        y.put(40, 1, 1, 0);
        y.put(42, 7, 0, 0);
        y.put(53, 8, 0, 0);
        y.start(40, 3, 0);
        noFewest("in a gap", y, 53, ANY);
        y.raze(42);
        fewest("where nothing is behind", y, 53, ANY, 4122);
    }

    private static void thePlanAndTheRunStay() {
        FallChain x = new FallChain();
        x.put(40, 8, 0, 0);
        x.put(38, 1, 1, 0);
        x.ball(60);
        x.start(38, 3, 0);
        x.start(60, 3, 0);
        x.start(90, 3, 9);
        x.run();
        for (int tick : new int[] {ANY, 0, 2, 399}) {
            x.met(40, tick);
            x.fragile(40, tick);
            x.fits(39, 40, tick);
            x.fewest(40, tick);
            due("pieces", x.status(0), 2);
            due("the domino", x.at(38, 0), 1);
            due("the ball", x.at(60, 3), 1);
            due("the gap", x.at(39, 0), 0);
            due("starts", x.status(2), 3);
            due("run() calls", x.status(4), 1);
            due("strikes", x.ran(2), 4);
            due("lost", x.ran(3), 1);
            due("the last tick", x.ran(1), 9);
            due("the first ring", x.ended(40, 0), 2);
            due("the ball's end", x.ended(66, 3), 1);
        }
        due("no refusals", x.status(11) + x.status(16), 0);
    }

    public static void main(String[] args) {
        theTicksOfAWish();
        theLastTickOfAWish();
        theLastStrikeOfAWish();
        noBellThere();
        aBellThatIsNotRung();
        shiftsOnEachCell();
        shiftsOnlyToWhatHasNothing();
        allButBellsAreShifted();
        theTrackStaysUnderABallThatIsShifted();
        noBallIsShiftedOntoATrack();
        cordsStayTiedAsTheyAreShifted();
        whatIsShiftedKeepsItsAAndB();
        fromNoneToManyShifts();
        moreThanAHundredShifts();
        allThatFits();
        timersOf9AndBucketsOf3();
        whatFitsAndRefusals();
        noneOneAndTwoPieces();
        onePieceOnEachCell();
        theLeastOfSeveralRows();
        theLeastAndTheGreatestPieces();
        onlyOnCellsThatAreFreeInThePlan();
        thePlanAndTheRunStay();
        System.out.println(wrong == 0 ? "all answers are as due" : wrong + " answers are not as due");
        if (wrong != 0) {
            System.exit(1);
        }
    }
}
