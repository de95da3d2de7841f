/** Promises 22 to 28: wishes that are met, shifts that break them, pieces that fit, the fewest pieces. */
public final class WishPromises {
    private static int wrong = 0;

    private static void due(String what, long got, long want) {
        if (got != want) {
            wrong++;
            System.out.println(what + " answered " + got + ", due is " + want);
        }
    }

    private static long yes(boolean b) {
        return b ? 1 : 0;
    }

    private static void weak(String when, FallChain x, int bell, int tick, int... shifts) {
        due(when + ": fragile", x.fragile(bell, tick), shifts.length);
        for (int i = 0; i < shifts.length; i++) {
            due(when + ": weak(" + i + ")", x.weak(i), shifts[i]);
        }
        due(when + ": weak behind the last", x.weak(shifts.length), -1);
        due(when + ": weak(-1)", x.weak(-1), -1);
    }

    private static void fit(String when, FallChain x, int cell, int bell, int tick, int... pieces) {
        due(when + ": fits", x.fits(cell, bell, tick), pieces.length);
        for (int i = 0; i < pieces.length; i++) {
            due(when + ": fit(" + i + ")", x.fit(i), pieces[i]);
        }
        due(when + ": fit behind the last", x.fit(pieces.length), -1);
        due(when + ": fit(-1)", x.fit(-1), -1);
    }

    private static void fewest(String when, FallChain x, int bell, int tick, int count, int... pieces) {
        due(when + ": fewest", x.fewest(bell, tick), count);
        for (int i = 0; i < pieces.length; i++) {
            due(when + ": fewestPiece(" + i + ")", x.fewestPiece(i), pieces[i]);
        }
        due(when + ": fewestPiece behind the last", x.fewestPiece(pieces.length), -1);
        due(when + ": fewestPiece(-1)", x.fewestPiece(-1), -1);
    }

    private static FallChain dominoAndBell() {
        FallChain x = new FallChain();
        x.put(13, 1, 1, 0);
        x.put(14, 8, 0, 0);
        x.start(13, 3, 3);
        return x;
    }

    private static void wishesAreMet() {
        FallChain x = dominoAndBell();
        x.start(14, 0, 9);
        due("in any tick", yes(x.met(14, -1)), 1);
        due("in tick 5", yes(x.met(14, 5)), 1);
        due("not first in tick 9", yes(x.met(14, 9)), 0);
        due("in tick 4", yes(x.met(14, 4)), 0);
        due("in tick 0", yes(x.met(14, 0)), 0);
        due("in tick -2", yes(x.met(14, -2)), 0);
        due("in tick 1000", yes(x.met(14, 1000)), 0);
        due("in the last int", yes(x.met(14, Integer.MAX_VALUE)), 0);
        due("no bell", yes(x.met(13, -1)), 0);
        due("nothing there", yes(x.met(50, -1)), 0);
        due("cell -1", yes(x.met(-1, -1)), 0);
        due("cell 96", yes(x.met(96, -1)), 0);
        x.put(50, 8, 0, 0);
        due("a bell that no one rings", yes(x.met(50, -1)), 0);
        due("no run()", x.ran(0), -1);
        due("no run() counted", x.status(4), 0);
        for (int what = 11; what <= 17; what++) {
            due("nothing refused", x.status(what), 0);
        }
    }

    private static void fragileTellsWeakShifts() {
        FallChain x = dominoAndBell();
        // The domino can go up, down and to side 3, and each breaks the chain; the bell cannot be moved.
        weak("a domino", x, 14, -1, 104, 106, 107);
        weak("a domino, by its tick", x, 14, 5, 104, 106, 107);
        due("not met by the plan", x.fragile(14, 4), -1);
        due("no weak shifts then", x.weak(0), -1);
        due("no bell", x.fragile(13, -1), -1);
        due("no cell", x.fragile(96, -1), -1);
        due("cell -1", x.fragile(-1, -1), -1);
        due("nothing refused", x.status(11), 0);
        // A lever that stands by matters nowhere, but between domino and bell; at (2, 3) it cannot come between.
        x.put(50, 2, 0, 0);
        weak("a lever that stands by", x, 14, -1, 104, 106, 107);
        x.put(15, 1, 1, 0);
        weak("a domino behind the bell", x, 14, -1, 104, 106, 107);
        due("the plan stays", x.at(13, 0) * 100 + x.at(14, 0) * 10 + x.at(15, 0), 181);
        FallChain y = new FallChain();
        y.put(0, 8, 0, 0);
        y.start(0, 1, 0);
        weak("nothing to shift", y, 0, 0);
    }

    private static void aTickMayBreakByAShift() {
        // Domino 13 reaches bell 15 over the gap; the lever at 2 can be moved down into the gap, where it takes the strike
        // and leads it on to the bell a tick later.
        FallChain x = new FallChain();
        x.put(13, 1, 1, 0);
        x.put(15, 8, 0, 0);
        x.put(2, 2, 1, 0);
        x.start(13, 3, 0);
        weak("in any tick", x, 15, -1, 104, 105, 106, 107);
        weak("in tick 2", x, 15, 2, 2 * 8 + 2, 104, 105, 106, 107);
    }

    private static void ballsShiftOffTheirTracks() {
        FallChain x = new FallChain();
        x.put(13, 9, 10, 0);
        x.ball(13);
        x.put(15, 8, 0, 0);
        x.start(13, 3, 0);
        // The track under the ball stays, and the ball alone is shifted: 8 * 13 + 4 and the side.
        weak("a ball on a track", x, 15, -1, 108, 109, 110, 111);
        // A ball beside the track: the track can be moved, and without it the ball rolls all the same.
        FallChain y = new FallChain();
        y.put(14, 9, 10, 0);
        y.ball(13);
        y.put(15, 8, 0, 0);
        y.start(13, 3, 0);
        weak("a ball before a track", y, 15, 2, 13 * 8 + 4, 13 * 8 + 4 + 2, 13 * 8 + 4 + 3);
        due("the ball is still there", y.at(13, 3), 1);
    }

    private static void aShiftedBallIsStruckWhereItLies() {
        FallChain x = new FallChain();
        x.ball(13);
        x.put(15, 8, 0, 0);
        x.start(13, 3, 0);
        x.start(12, 3, 0);
        // From cell 12 it rolls to the bell as well, a tick later.
        weak("in any tick", x, 15, -1, 108, 109, 110);
        weak("in tick 2", x, 15, 2, 108, 109, 110, 111);
    }

    private static void theFirstCellIsShiftedToo() {
        FallChain x = new FallChain();
        x.put(0, 1, 1, 0);
        x.put(1, 8, 0, 0);
        x.start(0, 3, 0);
        weak("the first cell", x, 1, -1, 2);
        FallChain y = new FallChain();
        y.put(95, 1, 1, 0);
        y.put(94, 8, 0, 0);
        y.start(95, 1, 0);
        weak("the last cell", y, 94, -1, 760);
    }

    private static void aShiftedCordIsPulledByTheOtherOne() {
        // Cord 13 leads to the bell; from cell 1 it leads to the lever at 2, which strikes the bell as well.
        FallChain x = new FallChain();
        x.cords(13, 1, 50, 3);
        x.put(2, 2, 2, 0);
        x.put(14, 8, 0, 0);
        x.start(50, 1, 0);
        weak("the other cord is struck", x, 14, -1, 106, 107, 400, 401, 402, 403);
    }

    private static void tiesHoldWhenACordIsShifted() {
        FallChain x = new FallChain();
        x.cords(13, 1, 50, 1);
        x.put(51, 8, 0, 0);
        x.start(13, 3, 0);
        // Cord 13 must take the start, so each of its four shifts breaks; cord 50 must stay before the bell, too.
        weak("cords", x, 51, -1, 104, 105, 106, 107, 400, 402, 403);
        // A second bell takes what the shifted cord leads to: the tie holds.
        x.put(39, 8, 0, 0);
        weak("a bell above", x, 51, 1, 104, 105, 106, 107, 400, 402, 403);
        due("the tie stays in the plan", x.at(13, 4) * 100 + x.at(50, 4), 5013);
        // With a start on the cell above, too, the first cord is pulled there as well.
        x.start(1, 3, 0);
        weak("two starts", x, 51, -1, 105, 106, 107, 400, 402, 403);
    }

    private static void fitsAreFound() {
        FallChain x = new FallChain();
        x.put(14, 8, 0, 0);
        x.start(13, 3, 0);
        fit("in any tick", x, 13, 14, -1, 1010, 2010, 4011, 4012, 4013, 4014, 4015, 4016, 4017, 4018, 4019, 5000, 6011);
        fit("in tick 1", x, 13, 14, 1, 2010, 4011, 5000, 6011);
        fit("in tick 2", x, 13, 14, 2, 1010, 4012);
        fit("in tick 9", x, 13, 14, 9, 4019);
        fit("in tick 10", x, 13, 14, 10);
        x.start(13, 1, 2);
        x.start(13, 0, 4);
        fit("three starts", x, 13, 14, 5, 4015, 6013);
        due("the plan stays", x.at(13, 0), 0);
        fit("of no bell", x, 13, 50, -1);
        fit("of another piece", x, 13, 13, -1);
        fit("of no cell", x, 13, 200, -1);
        fit("of cell -1", x, 13, -1, -1);
        due("a bell off the plan is no refusal", x.status(11), 0);
    }

    private static void tracksAndGatesFit() {
        // The ball rolls from 12 to the bell at 14: a track of ends 1 and 3, and nothing else but what passes it on.
        FallChain x = new FallChain();
        x.ball(12);
        x.put(14, 8, 0, 0);
        x.start(12, 3, 0);
        fit("in tick 2", x, 13, 14, 2, 2010, 4011, 5000, 6011, 9100);
        // A start on the gap in tick 0 opens a gate ahead of the ball, sets off a timer, and is a bucket's first strike.
        x.start(13, 0, 0);
        fit("with a start at the gap", x, 13, 14, 2, 4012, 6012, 7000, 9100);
        // A piece that is out of the way of all fits in any form: 2 + 4 + 36 + 1 + 12 + 1 + 6.
        due("out of the way", x.fits(80, 14, 2), 62);
        due("the first", x.fit(0), 1000);
        due("the second", x.fit(1), 1010);
        due("the third", x.fit(2), 2000);
        due("first timer", x.fit(6), 4001);
        due("last timer", x.fit(41), 4039);
        due("split", x.fit(42), 5000);
        due("first bucket", x.fit(43), 6001);
        due("last bucket", x.fit(54), 6033);
        due("gate", x.fit(55), 7000);
        int[] ends = {9030, 9050, 9060, 9090, 9100, 9120};
        for (int i = 0; i < 6; i++) {
            due("track " + i, x.fit(56 + i), ends[i]);
        }
        due("behind the last", x.fit(62), -1);
    }

    private static void refusedFitsKeepTheLatest() {
        FallChain x = new FallChain();
        due("no fits() yet", x.fit(0), -1);
        x.put(14, 8, 0, 0);
        x.ball(20);
        x.start(13, 3, 0);
        fit("in tick 2", x, 13, 14, 2, 1010, 4012);
        due("off the plan", x.fits(96, 14, 2), -1);
        due("cell -1", x.fits(-1, 50, 2), -1);
        due("on a piece", x.fits(14, 14, 2), -6);
        due("on a ball", x.fits(20, 50, 2), -6);
        due("the latest is kept", x.fit(1), 4012);
        due("refusals -1", x.status(11), 2);
        due("refusals -6", x.status(16), 2);
        due("no bell", x.fits(13, 50, 2), 0);
        due("that was not refused", x.fit(0), -1);
    }

    private static void theFewestPieces() {
        FallChain x = dominoAndBell();
        due("no fewest() yet", x.fewestPiece(0), -1);
        fewest("none", x, 14, -1, 0);
        fewest("none, by its tick", x, 14, 5, 0);
        x.raze(13);
        // The start in tick 3 is lost on 13: a domino there rings in tick 5, a lever in tick 4.
        fewest("one", x, 14, -1, 1, 1311);
        fewest("one, by its tick", x, 14, 4, 1, 1321);
        fewest("two, by its tick", x, 14, 7, -1);
        fewest("a tick that can't be", x, 14, 3, -1);
        due("no bell", x.fewest(13, -1), -1);
        due("no cell", x.fewest(96, -1), -1);
        due("cell -1", x.fewest(-1, -1), -1);
        due("nothing refused", x.status(11), 0);
        fewest("one again", x, 14, -1, 1, 1311);
        due("told none", x.fewest(14, 3), -1);
        due("no pieces of that", x.fewestPiece(0), -1);
        due("the plan stays", x.at(13, 0), 0);
    }

    private static void piecesAreOfEachForm() {
        int[][] starts = {{0, 0, 12}, {0, 3, 1}, {95, 1, 83}, {95, 0, 94}, {40, 0, 41}, {40, 3, 52}};
        int[][] due = {{10, 2}, {11, 2}, {9520, 1}, {9523, 1}, {4021, 1}, {4022, 1}};
        for (int i = 0; i < starts.length; i++) {
            FallChain x = new FallChain();
            x.put(starts[i][2], 8, 0, 0);
            x.start(starts[i][0], starts[i][1], 0);
            fewest("form " + i, x, starts[i][2], due[i][1], 1, due[i][0]);
        }
        FallChain x = new FallChain();
        x.put(13, 8, 0, 0);
        x.start(0, 0, 0);
        fewest("the first piece in the first cell", x, 13, 3, 2, 10, 1221);
        // Another bell's ring in tick 0 does not end the run in which the start of tick 3 is lost.
        FallChain z = new FallChain();
        z.put(0, 8, 0, 0);
        z.put(41, 8, 0, 0);
        z.start(0, 3, 0);
        z.start(40, 3, 3);
        fewest("lost behind another ring", z, 41, 4, 1, 4021);
        // Nor does the wish's own tick: a lever on the gap, where a start is lost in tick 50, is struck in tick 2.
        FallChain w = new FallChain();
        w.put(13, 1, 1, 0);
        w.put(15, 7, 0, 0);
        w.put(26, 8, 0, 0);
        w.start(13, 3, 0);
        w.start(14, 1, 50);
        fewest("lost behind the wish's tick", w, 26, 3, 1, 1422);
        FallChain y = new FallChain();
        y.put(12, 8, 0, 0);
        y.start(1, 1, 0);
        fewest("the second piece in the first cell", y, 12, 3, 2, 111, 22);
    }

    private static void theLeastRowOfTwo() {
        // From 13 to the bell at 40 (4, 3): two pieces, the first of which is on 13, where the start is lost.
        FallChain x = new FallChain();
        x.put(38, 8, 0, 0);
        x.start(13, 3, 0);
        // 13 leads down: lever 2 strikes 25 in tick 1; there a piece strikes 37 or 26; no, the bell is at (2, 3).
        fewest("too far for two", x, 38, -1, -1);
        x.raze(38);
        x.put(26, 8, 0, 0);
        // 13 to side 1 strikes 14, there a lever down: 26. A domino first: 1311 and then 1422; a lever first: 1321.
        fewest("in any tick", x, 26, -1, 2, 1311, 1422);
        fewest("in tick 2", x, 26, 2, 2, 1321, 1422);
        fewest("in tick 3", x, 26, 3, 2, 1311, 1422);
        // Two dominoes in a row, and over a gap: the strike of the second goes on to the bell at 16.
        x.raze(26);
        x.put(16, 8, 0, 0);
        fewest("over a gap", x, 16, -1, 2, 1311, 1411);
        fewest("over a gap, in tick 4", x, 16, 4, 2, 1311, 1411);
        fewest("over a gap, in tick 3", x, 16, 3, 2, 1321, 1411);
        fewest("in tick 2 it can't be", x, 16, 2, -1);
    }

    private static void onlyWhereAStrikeIsLost() {
        // No strike is lost on 14, as it is done on the gate behind the gap; so no lever can be put there.
        FallChain x = new FallChain();
        x.put(13, 1, 1, 0);
        x.put(15, 7, 0, 0);
        x.put(26, 8, 0, 0);
        x.start(13, 3, 0);
        fewest("the gap", x, 26, -1, -1);
        due("though a lever would fit there", x.fits(14, 26, -1) > 0 ? 1 : 0, 1);
        // The ball has left 14 as the start there is lost, but it lies there in the plan.
        FallChain y = new FallChain();
        y.ball(14);
        y.put(26, 8, 0, 0);
        y.start(14, 3, 0);
        y.start(14, 0, 8);
        y.start(14, 1, 9);
        due("lost where the ball lay", y.run() * 10 + y.ran(3), 92);
        fewest("where a ball lies in the plan", y, 26, -1, -1);
        y.raze(14);
        fewest("without it", y, 26, -1, 1, 1410);
    }

    public static void main(String[] args) {
        wishesAreMet();
        fragileTellsWeakShifts();
        aTickMayBreakByAShift();
        ballsShiftOffTheirTracks();
        aShiftedBallIsStruckWhereItLies();
        theFirstCellIsShiftedToo();
        aShiftedCordIsPulledByTheOtherOne();
        tiesHoldWhenACordIsShifted();
        fitsAreFound();
        tracksAndGatesFit();
        refusedFitsKeepTheLatest();
        theFewestPieces();
        piecesAreOfEachForm();
        theLeastRowOfTwo();
        onlyWhereAStrikeIsLost();
        System.out.println(wrong == 0 ? "all answers are as due" : wrong + " answers are not as due");
        if (wrong != 0) {
            System.exit(1);
        }
    }
}
