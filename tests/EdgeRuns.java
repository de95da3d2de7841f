/**
 * The edges of runs: what leads off the plan, balls that leave it, the first and the last time of each piece, and the three
 * ways in which a run ends.
 */
public final class EdgeRuns {
    private static final int[] DX = {0, 1, 0, -1};
    private static final int[] DY = {-1, 0, 1, 0};
    private static final int[] TRACKS = {3, 5, 6, 9, 10, 12};

    private static int wrong = 0;

    private static void due(String what, long got, long want) {
        if (got != want) {
            wrong++;
            System.out.println(what + " answered " + got + ", due is " + want);
        }
    }

    /** The cell so many steps to a side, or -1 if that is off the plan. */
    private static int away(int cell, int side, int steps) {
        int x = cell % 12 + steps * DX[side];
        int y = cell / 12 + steps * DY[side];
        return x < 0 || x > 11 || y < 0 || y > 7 ? -1 : 12 * y + x;
    }

    private static int far(int side) {
        return (side + 2) % 4;
    }

    private static void strike(String when, FallChain x, int i, int... told) {
        for (int what = 0; what < told.length; what++) {
            due(when + ": strike(" + i + ", " + what + ")", x.strike(i, what), told[what]);
        }
    }

    private static void ran(String when, FallChain x, int end, int tick, int strikes) {
        due(when + ": run()", x.run(), tick);
        due(when + ": its end", x.ran(0), end);
        due(when + ": its last tick", x.ran(1), tick);
        due(when + ": strikes", x.ran(2), strikes);
        due(when + ": no strike behind the last", x.strike(strikes, 0), -1);
        due(when + ": but the last", x.strike(strikes - 1, 0) == -1 ? 1 : 0, strikes == 0 ? 1 : 0);
    }

    // ---- what leads off the plan

    /** A piece was struck in tick 0; what it leads to is struck in a later tick, unless it is off the plan. */
    private static void leads(String what, FallChain x, int cell, int side, int tick) {
        int to = away(cell, side, 1);
        ran(what, x, 0, to < 0 ? 0 : tick, to < 0 ? 1 : 2);
        if (to >= 0) {
            strike(what, x, 1, tick, to, far(side), 0, 1, 0);
        }
        due(what + ": lost", x.ran(3), to < 0 ? 0 : 1);
    }

    private static void piecesLeadToEachSideOfEachCell() {
        for (int cell = 0; cell < 96; cell++) {
            for (int side = 0; side < 4; side++) {
                String where = " on " + cell + " that leads to " + side;
                FallChain x = new FallChain();
                x.put(cell, 1, side % 2, 0);
                x.start(cell, far(side), 0);
                leads("a domino" + where, x, cell, side, 2);
                for (int turn = 1; turn < 4; turn++) {
                    int from = (side + turn) % 4;
                    x = new FallChain();
                    x.put(cell, 2, side, 0);
                    x.start(cell, from, 0);
                    leads("a lever" + where + ", from " + from, x, cell, side, 1);
                }
                x = new FallChain();
                int other = (cell + 30) % 96;
                x.cords(cell, side, other, 0);
                x.start(other, 1, 0);
                leads("a cord" + where, x, cell, side, 1);
                for (int b : new int[] {1, 60}) {
                    x = new FallChain();
                    x.put(cell, 4, side, b);
                    x.start(cell, side, 0);
                    leads("a timer" + where, x, cell, side, b);
                }
                x = new FallChain();
                x.put(cell, 6, side, 1);
                x.start(cell, side, 0);
                leads("a bucket" + where, x, cell, side, 1);
            }
        }
    }

    private static void splitsLeadToTheirOtherThreeSides() {
        for (int cell = 0; cell < 96; cell++) {
            for (int from = 0; from < 4; from++) {
                String what = "a split on " + cell + " from " + from;
                FallChain x = new FallChain();
                x.put(cell, 5, 0, 0);
                x.start(cell, from, 0);
                x.run();
                int set = 0;
                for (int side = 0; side < 4; side++) {
                    int to = away(cell, side, 1);
                    if (side != from && to >= 0) {
                        set++;
                        strike(what, x, set, 1, to, far(side), 0, 1, 0);
                    }
                }
                due(what + ": strikes", x.ran(2), set + 1);
                due(what + ": its end", x.ran(0), 0);
            }
        }
    }

    private static void dominoesReachOverOneCellButNotOffThePlan() {
        for (int cell = 0; cell < 96; cell++) {
            for (int side = 0; side < 4; side++) {
                String what = "a domino on " + cell + " to " + side;
                int next = away(cell, side, 1);
                int behind = away(cell, side, 2);
                // A cell that only its number puts two behind, round the edge of the plan, is out of reach.
                int counted = cell + 2 * (DX[side] + 12 * DY[side]);
                FallChain x = new FallChain();
                x.put(cell, 1, side % 2, 0);
                x.start(cell, far(side), 0);
                if (counted >= 0 && counted < 96) {
                    due(what + ": a bell put", x.put(counted, 8, 0, 0), 1);
                }
                x.run();
                if (next < 0) {
                    due(what + ": strikes", x.ran(2), 1);
                } else {
                    strike(what, x, 1, 2, behind < 0 ? next : behind, far(side), 0, behind < 0 ? 1 : 0, 0);
                }
                due(what + ": rings", x.ran(4), behind < 0 ? 0 : 1);
            }
        }
    }

    private static void aDominoReachesOverOneEmptyCellOnly() {
        int[][] on = {{1, 0}, {2, 0}, {4, 1}, {5, 0}, {6, 1}, {7, 0}, {8, 0}, {9, 10}, {9, 5}};
        for (int[] p : on) {
            FallChain x = new FallChain();
            x.put(40, 1, 1, 0);
            x.start(40, 3, 0);
            x.put(42, p[0], p[1], 9);
            x.run();
            strike("over the gap to kind " + p[0], x, 1, 2, 42, 3, 0, 0, 0);
            due("the gap was not struck", x.ended(41, 2), 0);
            x.put(41, 9, 5, 0);
            x.run();
            strike("a track in the gap", x, 1, 2, 41, 3, 0, 0, 0);
            x.raze(41);
            x.raze(42);
            x.put(43, p[0], p[1], 9);
            x.run();
            strike("two cells are too far", x, 1, 2, 41, 3, 0, 1, 0);
        }
        FallChain x = new FallChain();
        x.put(40, 1, 1, 0);
        x.start(40, 3, 0);
        x.cords(42, 0, 90, 0);
        x.run();
        strike("over the gap to a cord", x, 1, 2, 42, 3, 0, 0, 0);
        x.raze(42);
        x.ball(42);
        x.run();
        strike("over the gap to a ball", x, 1, 2, 42, 3, 0, 0, 0);
        x.ball(41);
        x.run();
        strike("a ball in the gap", x, 1, 2, 41, 3, 0, 0, 0);
    }

    private static void onlyDominoesReachOverACell() {
        int[][] on = {{2, 1}, {4, 1}, {5, 0}, {6, 1}};
        for (int[] p : on) {
            FallChain x = new FallChain();
            x.put(40, p[0], p[1], 1);
            x.put(42, 8, 0, 0);
            x.start(40, 3, 0);
            x.run();
            due("kind " + p[0] + " strikes the gap", x.ended(41, 2), 1);
            due("kind " + p[0] + " rings no bell behind it", x.ran(4), 0);
        }
        FallChain x = new FallChain();
        x.cords(40, 1, 60, 0);
        x.put(42, 8, 0, 0);
        x.start(60, 0, 0);
        x.start(41, 3, 5);
        x.run();
        due("cords and starts strike the gap", x.ended(41, 2), 2);
        due("they ring no bell behind it", x.ran(4), 0);
    }

    // ---- balls

    /** Struck in tick 0 it rolls in ticks 1 to 6; or it is gone in the tick in which it leaves the plan. */
    private static void ballsRollFromEachCellToEachSide() {
        for (int cell = 0; cell < 96; cell++) {
            for (int side = 0; side < 4; side++) {
                String what = "a ball from " + cell + " to " + side;
                FallChain x = new FallChain();
                x.ball(cell);
                x.start(cell, far(side), 0);
                int to = away(cell, side, 6);
                int tick = 6;
                for (int steps = 6; steps > 0 && to < 0; steps--) {
                    tick = away(cell, side, steps) < 0 ? steps : tick;
                }
                ran(what, x, 0, tick, 1);
                due(what + ": gone", x.ran(5), to < 0 ? 1 : 0);
                for (int c = 0; c < 96; c++) {
                    due(what + ": a ball in " + c, x.ended(c, 3), c == to ? 1 : 0);
                }
            }
        }
    }

    private static void theSixthStepAndOneMore() {
        FallChain x = new FallChain();
        x.ball(29);
        x.start(29, 3, 0);
        ran("six steps to the edge", x, 0, 6, 1);
        due("it lies at the edge", x.ended(35, 3), 1);
        x.start(35, 3, 6);
        ran("struck as it takes the sixth", x, 0, 6, 2);
        due("that was lost", x.strike(1, 4), 1);
        due("it lies at the edge all the same", x.ended(35, 3), 1);
        x.start(35, 3, 7);
        ran("struck behind the sixth", x, 0, 8, 3);
        due("gone", x.ran(5), 1);
        x = new FallChain();
        x.ball(30);
        x.start(30, 3, 0);
        ran("five steps to the edge, and off", x, 0, 6, 1);
        due("gone with the sixth", x.ran(5), 1);
        x = new FallChain();
        x.ball(24);
        x.put(31, 8, 0, 0);
        x.start(24, 3, 0);
        ran("a bell seven cells off", x, 0, 6, 1);
        due("not reached", x.ended(30, 3), 1);
        x.raze(31);
        x.put(30, 8, 0, 0);
        ran("a bell six cells off", x, 0, 6, 2);
        due("reached", x.ended(30, 0), 6);
        due("the ball lies ahead of it", x.ended(29, 3), 1);
        // What lies ahead of a bell has six steps anew.
        x.start(29, 1, 10);
        ran("back from the bell", x, 0, 16, 3);
        due("gone to side 3", x.ran(5), 1);
    }

    private static void aSixthStepInAGateOrOnATrack() {
        for (int way : TRACKS) {
            FallChain x = new FallChain();
            x.ball(24);
            x.put(30, 9, way, 0);
            x.start(24, 3, 0);
            boolean enters = (way & 8) != 0;
            ran("track " + way, x, 0, 6, enters ? 1 : 2);
            due("it lies on track " + way, x.ended(30, 3), enters ? 1 : 0);
            due("it lies ahead of track " + way, x.ended(29, 3), enters ? 0 : 1);
        }
        FallChain x = new FallChain();
        x.ball(24);
        x.put(30, 7, 0, 0);
        x.start(24, 3, 0);
        ran("a shut gate", x, 0, 6, 2);
        due("it lies ahead of the gate", x.ended(29, 3), 1);
        x.start(30, 0, 6);
        ran("a gate opened in the tick itself", x, 0, 6, 2);
        due("it lies in the gate", x.ended(30, 3), 1);
        due("the gate is open", x.ended(30, 4), 1);
        x.start(30, 2, 7);
        ran("struck in the gate", x, 0, 10, 3);
        due("gone", x.ran(5), 1);
    }

    /** Of each track, from each side: a ball on it rolls only to an end, one that comes enters only by an end. */
    private static void tracksHaveTwoEnds() {
        for (int way : TRACKS) {
            for (int from = 0; from < 4; from++) {
                String what = "track " + way + " from " + from;
                int to = far(from);
                boolean ends = (way >> to) % 2 == 1;
                FallChain x = new FallChain();
                x.put(40, 9, way, 0);
                x.ball(40);
                x.start(40, from, 0);
                x.run();
                due(what + ": it rolled", x.ended(40, 3), ends ? 0 : 1);
                due(what + ": not lost", x.strike(0, 4), 0);
                boolean enters = (way >> from) % 2 == 1;
                int start = away(40, from, 1);
                FallChain y = new FallChain();
                y.put(40, 9, way, 0);
                y.ball(start);
                y.start(start, from, 0);
                y.run();
                due(what + ": strikes", y.ran(2), enters ? 1 : 2);
                due(what + ": it lies ahead", y.ended(start, 3), enters ? 0 : 1);
                if (enters) {
                    int other = Integer.numberOfTrailingZeros(way - (1 << from));
                    int end = away(40, other, 5);
                    due(what + ": gone", y.ran(5), end < 0 ? 1 : 0);
                    due(what + ": it lies at the end", end < 0 ? 1 : y.ended(end, 3), 1);
                } else {
                    strike(what, y, 1, 1, 40, from, 0, 0, 1);
                }
            }
        }
    }

    private static void tracksThatLeadOffThePlan() {
        FallChain x = new FallChain();
        x.ball(10);
        x.put(11, 9, 9, 0);
        x.start(10, 3, 0);
        ran("off by a bend in the corner", x, 0, 2, 1);
        due("gone", x.ran(5), 1);
        x = new FallChain();
        x.put(95, 9, 10, 0);
        x.ball(95);
        x.start(95, 3, 0);
        ran("off from a track in the last cell", x, 0, 1, 1);
        due("gone", x.ran(5), 1);
        x = new FallChain();
        x.put(0, 9, 9, 0);
        x.ball(0);
        x.start(0, 3, 0);
        x.start(0, 0, 1);
        x.start(0, 2, 2);
        ran("neither to side 1 nor to side 2 but to side 0", x, 0, 3, 3);
        due("gone", x.ran(5), 1);
    }

    private static void theLesserNumberRollsFirst() {
        for (int turn = 0; turn < 2; turn++) {
            // Both would enter cell 41 in tick 1; the order in which they were laid does not matter.
            FallChain x = new FallChain();
            x.ball(turn == 0 ? 40 : 42);
            x.ball(turn == 0 ? 42 : 40);
            x.start(42, 1, 0);
            x.start(40, 3, 0);
            x.run();
            strike("the ball in 42 finds the one from 40", x, 2, 1, 41, 1, 0, 0, 1);
            strike("it lies, and is struck", x, 3, 2, 42, 3, 1, 0, 1);
            due("the one from 40 lies", x.ended(41, 3), 1);
            due("the other one is gone with its sixth step", x.ran(5), 1);
        }
        // The lesser opens the gate in the tick in which the other one comes to it.
        FallChain x = new FallChain();
        x.ball(28);
        x.ball(41);
        x.put(40, 7, 0, 0);
        x.start(28, 0, 0);
        x.start(41, 1, 0);
        x.run();
        due("one strike by a ball", x.ran(2), 3);
        due("the lesser lies", x.ended(28, 3), 1);
        due("the other one rolled through", x.ended(41, 3), 0);
        x = new FallChain();
        x.ball(39);
        x.ball(52);
        x.put(40, 7, 0, 0);
        x.put(38, 8, 0, 0);
        x.start(52, 2, 0);
        x.start(39, 3, 0);
        x.run();
        strike("the lesser comes to a shut gate", x, 2, 1, 40, 3, 1, 0, 1);
        due("the other one rolls through", x.ended(52, 3) + x.ended(39, 3), 1);
    }

    private static void strikesOfBalls() {
        FallChain x = new FallChain();
        x.ball(24);
        x.start(24, 3, 0);
        x.start(25, 2, 1);
        x.start(25, 2, 2);
        x.start(30, 2, 6);
        ran("a ball that rolls", x, 0, 6, 4);
        strike("as it comes only behind the strikes", x, 1, 1, 25, 2, -1, 1, 0);
        strike("it rolls there: nothing", x, 2, 2, 25, 2, -1, 0, 0);
        due("it lies six cells off", x.ended(30, 3), 1);
        FallChain y = new FallChain();
        y.ball(24);
        y.start(24, 3, 0);
        y.start(24, 1, 0);
        ran("struck twice in a tick", y, 0, 6, 2);
        due("the first strike counts", y.ended(30, 3), 1);
    }

    // ---- the first and the last time

    private static void leversAreNotStruckFromWhereTheyLead() {
        for (int a = 0; a < 4; a++) {
            FallChain x = new FallChain();
            x.put(40, 2, a, 0);
            for (int from = 0; from < 4; from++) {
                x.start(40, from, 10 * from);
            }
            x.run();
            due("lever to " + a + ": strikes", x.ran(2), 7);
            due("lever to " + a + ": struck", x.ended(40, 2), 4);
            due("lever to " + a + ": leads", x.ended(away(40, a, 1), 2), 3);
        }
    }

    private static void dominoesFallOnceAndOnTheirAxis() {
        for (int a = 0; a < 2; a++) {
            for (int from = 0; from < 4; from++) {
                String what = "domino " + a + " from " + from;
                FallChain x = new FallChain();
                x.put(40, 1, a, 0);
                x.start(40, from, 0);
                x.run();
                boolean falls = a == from % 2;
                due(what + ": down", x.ended(40, 4), falls ? 1 : 0);
                due(what + ": strikes", x.ran(2), falls ? 2 : 1);
                x.start(40, from, 5);
                x.start(40, far(from), 6);
                x.run();
                due(what + ", thrice: strikes", x.ran(2), falls ? 4 : 3);
            }
        }
    }

    private static void cordsArePulledOnce() {
        for (int first = 0; first < 2; first++) {
            for (int second = 0; second < 2; second++) {
                FallChain x = new FallChain();
                int[] cells = {40, 62};
                x.cords(40, 1, 62, 3);
                x.start(cells[first], 0, 0);
                x.start(cells[second], 0, 0);
                x.start(cells[second], 0, 7);
                ran("cords " + first + second, x, 0, 7, 4);
                strike("cords " + first + second, x, 2, 1, first == 0 ? 61 : 41, first == 0 ? 1 : 3, 0, 1, 0);
            }
        }
        FallChain x = new FallChain();
        x.cords(40, 1, 62, 3);
        x.cords(41, 1, 70, 1);
        x.start(62, 0, 0);
        ran("a cord that pulls another pair", x, 0, 2, 3);
        strike("a cord that pulls another pair", x, 2, 2, 71, 3, 1, 1, 0);
        // A ball that strikes a cord pulls it, too.
        x = new FallChain();
        x.ball(38);
        x.cords(40, 0, 62, 3);
        x.start(38, 3, 0);
        ran("a cord and a ball", x, 0, 3, 3);
        strike("a cord and a ball", x, 1, 2, 40, 3, 0, 0, 1);
        strike("a cord and a ball", x, 2, 3, 61, 1, 1, 1, 0);
    }

    private static void timersAndSplitsWorkTheFirstTime() {
        FallChain x = new FallChain();
        x.put(40, 4, 1, 60);
        x.start(40, 1, 0);
        x.start(40, 3, 0);
        x.start(40, 3, 60);
        x.start(40, 3, 99);
        ran("a timer", x, 0, 99, 5);
        strike("a timer", x, 3, 60, 41, 3, 0, 1, 0);
        x = new FallChain();
        x.put(40, 5, 0, 0);
        x.start(40, 2, 0);
        x.start(40, 0, 0);
        x.start(40, 2, 1);
        ran("a split", x, 0, 1, 6);
        strike("the start was set ahead", x, 2, 1, 40, 2, -1, 0, 0);
        strike("to side 0", x, 3, 1, 28, 2, 0, 1, 0);
        strike("to side 1", x, 4, 1, 41, 3, 0, 1, 0);
        strike("to side 3", x, 5, 1, 39, 1, 0, 1, 0);
    }

    /** Three splits, led round by levers, strike the bucket on 40 nine times; the fourth start strikes it a tenth time. */
    private static FallChain bucketStruckTenTimes(int b) {
        FallChain x = new FallChain();
        x.put(40, 6, 3, b);
        int[][] levers = {{27, 1}, {51, 1}, {28, 2}, {52, 0}, {29, 3}, {53, 3}, {15, 2}, {17, 2}};
        for (int[] p : levers) {
            x.put(p[0], 2, p[1], 0);
        }
        for (int split : new int[] {39, 41, 16}) {
            x.put(split, 5, 0, 0);
        }
        x.start(39, 3, 0);
        x.start(41, 1, 10);
        x.start(16, 0, 20);
        x.start(40, 1, 30);
        return x;
    }

    private static void bucketsTipTheBthTime() {
        for (int b = 1; b <= 9; b++) {
            FallChain x = bucketStruckTenTimes(b);
            x.run();
            due("bucket of " + b + ": struck", x.ended(40, 2), 10);
            int struck = 0;
            int tipped = 0;
            int strikes = x.ran(2);
            for (int i = 0; i < strikes; i++) {
                if (x.strike(i, 1) == 39 && x.strike(i, 2) == 1) {
                    tipped++;
                    int by = x.strike(i, 3);
                    due("bucket of " + b + ": tips a tick later", x.strike(i, 0), x.strike(by, 0) + 1);
                    due("bucket of " + b + ": by the strike", timesStruck(x, 40, by), b);
                }
                struck += x.strike(i, 1) == 40 ? 1 : 0;
            }
            due("bucket of " + b + ": strikes of it", struck, 10);
            due("bucket of " + b + ": tips", tipped, 1);
        }
        FallChain x = bucketStruckTenTimes(9);
        x.noStarts();
        x.start(39, 3, 0);
        x.start(41, 1, 10);
        x.start(40, 0, 20);
        x.start(40, 0, 21);
        x.run();
        due("struck eight times", x.ended(40, 2), 8);
        due("a bucket of 9 does not tip", x.ended(39, 2), 1);
        x.raze(40);
        x.put(40, 6, 3, 8);
        x.run();
        due("a bucket of 8 does", x.ended(39, 2), 2);
    }

    private static int timesStruck(FallChain x, int cell, int last) {
        int times = 0;
        for (int i = 0; i <= last; i++) {
            times += x.strike(i, 1) == cell ? 1 : 0;
        }
        return times;
    }

    private static void bellsRingEachTime() {
        FallChain x = new FallChain();
        x.put(0, 8, 0, 0);
        x.put(95, 8, 0, 0);
        for (int tick : new int[] {99, 0, 99, 50}) {
            x.start(95, 0, tick);
        }
        ran("bells", x, 0, 99, 4);
        due("rings in all", x.ran(4), 4);
        due("first ring in tick 0", x.ended(95, 0), 0);
        due("rings", x.ended(95, 1), 4);
        due("struck", x.ended(95, 2), 4);
        due("never rung", x.ended(0, 0), -1);
        due("no rings", x.ended(0, 1), 0);
        due("no cause", x.why(0, 0), -1);
        due("its first ring's cause", x.why(95, 0), 0);
        due("and no more", x.why(95, 1), -1);
        due("no bell", x.ended(50, 0), -1);
        due("no bell rings", x.ended(50, 1), 0);
    }

    private static void aRingInTheFirstCellEndsNoRun() {
        FallChain x = new FallChain();
        x.put(0, 8, 0, 0);
        x.start(0, 0, 0);
        x.start(50, 0, 7);
        x.start(0, 1, 9);
        ran("a bell in cell 0", x, 0, 9, 3);
        due("rings", x.ended(0, 1), 2);
        due("first ring", x.ended(0, 0), 0);
    }

    private static void onlyDominoesAndGatesChange() {
        int[][] on = {{2, 0}, {4, 0}, {5, 0}, {6, 0}, {8, 0}, {9, 3}};
        for (int[] p : on) {
            FallChain x = new FallChain();
            x.put(40, p[0], p[1], 1);
            x.start(40, 1, 0);
            x.run();
            due("struck, kind " + p[0], x.ended(40, 2), 1);
            due("neither down nor open, kind " + p[0], x.ended(40, 4), 0);
            due("rings of kind " + p[0], x.ended(40, 1), p[0] == 8 ? 1 : 0);
            due("first ring of kind " + p[0], x.ended(40, 0), p[0] == 8 ? 0 : -1);
        }
        FallChain x = new FallChain();
        x.cords(40, 0, 60, 0);
        x.put(70, 7, 0, 0);
        x.put(71, 1, 0, 0);
        x.put(72, 7, 0, 0);
        x.put(73, 1, 0, 0);
        x.start(40, 0, 0);
        x.start(70, 0, 0);
        x.start(71, 0, 0);
        x.run();
        due("a cord", x.ended(40, 4), 0);
        due("a gate", x.ended(70, 4), 1);
        due("a domino", x.ended(71, 4), 1);
        due("a gate that is not struck", x.ended(72, 4), 0);
        due("a domino that is not struck", x.ended(73, 4), 0);
        due("nothing", x.ended(50, 4), 0);
    }

    private static void lostStrikes() {
        int[][] on = {{1, 0}, {2, 0}, {4, 0}, {5, 0}, {6, 0}, {7, 0}, {8, 0}, {9, 3}};
        for (int[] p : on) {
            FallChain x = new FallChain();
            x.put(40, p[0], p[1], 1);
            x.start(40, 1, 0);
            x.start(40, 0, 50);
            x.run();
            due("on kind " + p[0], x.strike(0, 4), 0);
            due("on kind " + p[0] + ", the second time", x.ended(40, 2), 2);
        }
        FallChain x = new FallChain();
        x.cords(40, 0, 60, 0);
        x.ball(70);
        x.put(80, 9, 3, 0);
        x.ball(80);
        x.start(40, 0, 0);
        x.start(70, 0, 0);
        x.start(80, 0, 0);
        x.start(79, 0, 0);
        x.run();
        due("on a cord", x.strike(0, 4), 0);
        due("on a ball", x.strike(1, 4), 0);
        due("on a ball on a track", x.strike(2, 4), 0);
        due("on nothing", x.strike(3, 4), 1);
    }

    /** Strike 2 sets it off, in tick 9; the causes are numbers of strikes, not of ticks or cells. */
    private static void theCauseIsTheStrikeThatSet() {
        int[][] on = {{1, 1, 0}, {2, 1, 0}, {4, 1, 7}, {5, 0, 0}, {6, 1, 1}};
        for (int[] p : on) {
            FallChain x = new FallChain();
            x.start(90, 0, 3);
            x.start(90, 0, 4);
            x.start(40, 3, 9);
            x.put(40, p[0], p[1], p[2]);
            x.run();
            due("starts have no cause", x.strike(0, 3) + x.strike(1, 3) + x.strike(2, 3), -3);
            due("set off by kind " + p[0], x.strike(3, 3), 2);
            x.noStarts();
            x.start(90, 0, 3);
            x.start(90, 0, 4);
            x.start(38, 3, 9);
            x.ball(38);
            x.run();
            due("by a ball, kind " + p[0], x.strike(3, 3), 2);
            due("set off by what a ball struck, kind " + p[0], x.strike(4, 3), 3);
        }
        FallChain x = new FallChain();
        x.cords(40, 1, 62, 1);
        x.start(90, 0, 3);
        x.start(90, 0, 4);
        x.start(62, 3, 9);
        x.run();
        due("set off by a cord", x.strike(3, 3), 2);
        // A ball that was struck by a ball was made to roll by that strike.
        x = new FallChain();
        x.ball(38);
        x.ball(40);
        x.put(42, 8, 0, 0);
        x.start(90, 0, 3);
        x.start(90, 0, 4);
        x.start(38, 3, 9);
        x.run();
        due("the second ball's strike is of the bell", x.strike(4, 1), 42);
        due("set off by the first ball's strike", x.strike(4, 3), 3);
        int[] row = {2, 3, 4, -1};
        for (int i = 0; i < 4; i++) {
            due("why(42, " + i + ")", x.why(42, i), row[i]);
        }
    }

    private static void gatesAreOpenForGood() {
        FallChain x = new FallChain();
        x.put(40, 7, 0, 0);
        x.ball(38);
        x.ball(52);
        x.start(38, 3, 0);
        x.start(52, 2, 20);
        x.start(40, 0, 19);
        x.run();
        due("opened by a ball", x.strike(1, 5), 1);
        due("that lies", x.ended(39, 3), 1);
        due("open", x.ended(40, 4), 1);
        due("a later ball rolls through", x.ran(5), 1);
        due("in the plan nothing is changed", x.at(40, 0) * 10 + x.at(38, 3), 71);
        x.noStarts();
        x.run();
        due("shut in a run in which it isn't struck", x.ended(40, 4), 0);
    }

    private static void theRunLeavesThePlan() {
        FallChain x = new FallChain();
        x.put(40, 1, 1, 0);
        x.put(41, 6, 1, 2);
        x.put(42, 7, 0, 0);
        x.put(43, 4, 0, 9);
        x.cords(44, 0, 60, 0);
        x.ball(70);
        x.start(40, 3, 0);
        x.start(41, 3, 1);
        x.start(70, 1, 0);
        x.start(60, 0, 0);
        x.ball(11);
        x.put(90, 8, 0, 0);
        x.put(78, 2, 2, 0);
        x.put(95, 2, 0, 0);
        x.row(0, 0, 0);
        x.keep(7);
        int first = x.run();
        int[] counts = new int[6];
        for (int what = 0; what <= 5; what++) {
            counts[what] = x.ran(what);
        }
        due("pieces", x.status(0), 9);
        due("the balls", x.at(70, 3) + x.at(11, 3), 2);
        due("starts", x.status(2), 4);
        due("the gate is struck by the bucket", x.ended(42, 4), 1);
        due("the next run is as the first", x.run(), first);
        for (int what = 0; what <= 5; what++) {
            due("the next run: ran(" + what + ")", x.ran(what), counts[what]);
        }
    }

    private static void eachRunBeginsAnew() {
        FallChain x = new FallChain();
        x.put(90, 8, 0, 0);
        x.ball(11);
        for (int[] s : new int[][] {{90, 0, 0}, {50, 0, 0}, {11, 3, 0}, {90, 0, 1}}) {
            x.start(s[0], s[1], s[2]);
        }
        for (int turn = 1; turn <= 3; turn++) {
            ran("run " + turn, x, 0, 1, 4);
            due("lost in run " + turn, x.ran(3), 1);
            due("rings in run " + turn, x.ran(4), 2);
            due("balls gone in run " + turn, x.ran(5), 1);
            due("rings of the bell in run " + turn, x.ended(90, 1), 2);
            due("strikes of the bell in run " + turn, x.ended(90, 2), 2);
        }
        FallChain y = ring(60);
        ran("a run that ends behind tick 399", y, 1, 399, 983);
        y.keep(0);
        y.raze(0);
        ran("a run at rest behind it", y, 0, 222, 8);
        y.load(0);
        y.start(1, 3, 0);
        ran("a run that ends with 1,000 strikes", y, 2, 304, 1000);
        y.raze(0);
        ran("a run at rest behind that", y, 0, 222, 12);
    }

    // ---- ends of runs

    private static void atRestFromTheFirst() {
        FallChain x = new FallChain();
        ran("an empty plan", x, 0, 0, 0);
        for (int cell = 0; cell < 96; cell++) {
            x.ball(cell);
        }
        ran("balls that lie", x, 0, 0, 0);
        x.start(95, 3, 0);
        ran("one that rolls off", x, 0, 1, 1);
        due("gone", x.ran(5), 1);
        x = new FallChain();
        x.start(40, 0, 99);
        ran("a start set for later", x, 0, 99, 1);
        x = new FallChain();
        x.put(40, 8, 0, 0);
        x.start(40, 0, 0);
        ran("a ring in tick 0", x, 0, 0, 1);
    }

    /** Five timers in a row, from a start in tick 99: cell 89 is struck from side 3 in the tick asked for. */
    private static FallChain struckIn(int tick) {
        FallChain x = new FallChain();
        int rest = tick - 99;
        for (int k = 0; k < 5; k++) {
            int wait = Math.min(60, rest - (4 - k));
            x.put(84 + k, 4, 1, wait);
            rest -= wait;
        }
        x.start(84, 3, 99);
        due("made: all of it waited for", rest, 0);
        return x;
    }

    private static FallChain struckIn(int tick, int kind, int a, int b) {
        FallChain x = struckIn(tick);
        due("made: kind " + kind, x.put(89, kind, a, b), 1);
        return x;
    }

    private static void behindTick399() {
        ran("the last strike in tick 398", struckIn(398), 0, 398, 6);
        ran("the last strike in tick 399", struckIn(399), 0, 399, 6);
        FallChain x = struckIn(399, 8, 0, 0);
        ran("a ring in tick 399", x, 0, 399, 6);
        due("it rang", x.ended(89, 0), 399);
        due("why", x.why(89, 5), 5);
        ran("a lever in tick 398", struckIn(398, 2, 1, 0), 0, 399, 7);
        ran("a lever in tick 399", struckIn(399, 2, 1, 0), 1, 399, 6);
        ran("a lever off the plan in tick 399", struckIn(399, 2, 2, 0), 0, 399, 6);
        ran("a domino in tick 397", struckIn(397, 1, 1, 0), 0, 399, 7);
        ran("a domino in tick 398", struckIn(398, 1, 1, 0), 1, 399, 6);
        ran("a domino in tick 399", struckIn(399, 1, 1, 0), 1, 399, 6);
        ran("a domino of the other axis in tick 399", struckIn(399, 1, 0, 0), 0, 399, 6);
        ran("a timer of 60 in tick 339", struckIn(339, 4, 1, 60), 0, 399, 7);
        ran("a timer of 60 in tick 340", struckIn(340, 4, 1, 60), 1, 399, 6);
        ran("a timer of 60 in tick 399", struckIn(399, 4, 1, 60), 1, 399, 6);
        ran("a split in tick 398", struckIn(398, 5, 0, 0), 0, 399, 8);
        ran("a split in tick 399", struckIn(399, 5, 0, 0), 1, 399, 6);
        ran("a bucket in tick 399", struckIn(399, 6, 1, 1), 1, 399, 6);
        ran("a bucket that does not tip in tick 399", struckIn(399, 6, 1, 2), 0, 399, 6);
        ran("a gate in tick 399", struckIn(399, 7, 0, 0), 0, 399, 6);
    }

    private static void ballsBehindTick399() {
        FallChain x = struckIn(393);
        x.ball(89);
        ran("a sixth step in tick 399", x, 0, 399, 6);
        due("it lies in the last cell", x.ended(95, 3), 1);
        x = struckIn(394);
        x.ball(89);
        ran("a fifth step in tick 399", x, 1, 399, 6);
        due("it is in the last cell but one", x.ended(94, 3), 1);
        x = struckIn(399);
        x.ball(89);
        ran("a ball struck in tick 399", x, 1, 399, 6);
        due("it has not rolled", x.ended(89, 3), 1);
        x = struckIn(398);
        x.ball(89);
        x.put(90, 8, 0, 0);
        ran("a ball that rings in tick 399", x, 0, 399, 7);
        due("rung", x.ended(90, 0), 399);
        x = struckIn(399);
        x.ball(89);
        x.put(90, 8, 0, 0);
        ran("a ball that would ring in tick 400", x, 1, 399, 6);
        due("not rung", x.ended(90, 0), -1);
        x = struckIn(398);
        x.ball(89);
        x.put(90, 2, 0, 0);
        ran("a ball that strikes a lever in tick 399", x, 1, 399, 7);
        x = struckIn(398);
        x.ball(89);
        x.ball(90);
        ran("a ball that strikes a ball in tick 399", x, 1, 399, 7);
        due("both are there", x.ended(89, 3) + x.ended(90, 3), 2);
    }

    private static void whatLeavesThePlanInTick399() {
        FallChain x = new FallChain();
        for (int k = 0; k < 5; k++) {
            x.put(90 + k, 4, 1, k < 4 ? 60 : 59);
        }
        x.start(90, 3, 99);
        x.ball(95);
        ran("a ball struck in tick 398 in the last cell", x, 0, 399, 6);
        due("gone in tick 399", x.ran(5), 1);
        x.raze(94);
        x.put(94, 4, 1, 60);
        ran("a ball struck in tick 399 in the last cell", x, 1, 399, 6);
        due("not gone", x.ran(5), 0);
        due("still there", x.ended(95, 3), 1);
        x.put(95, 9, 12, 0);
        ran("a ball held by its track", x, 0, 399, 6);
    }

    /** Four levers in a ring, so that a strike goes round for ever; timers on 3 and 2 bring another one to it. */
    private static FallChain ring(int wait) {
        FallChain x = new FallChain();
        int[][] levers = {{0, 1}, {1, 2}, {13, 3}, {12, 0}};
        for (int[] p : levers) {
            x.put(p[0], 2, p[1], 0);
        }
        x.start(0, 3, 0);
        x.start(0, 3, 0);
        x.put(3, 4, 3, 60);
        x.put(2, 4, 3, wait);
        x.start(3, 0, 99);
        return x;
    }

    private static void outOfTicksOrOutOfStrikes() {
        // 800 of the two, two of the timers, and of the third one a strike in each tick from 159 and the wait to 399.
        ran("998 strikes", ring(45), 1, 399, 998);
        ran("999 strikes", ring(44), 1, 399, 999);
        ran("the 1,000th is the last in tick 399", ring(43), 2, 399, 1000);
        ran("one more would be in tick 399", ring(42), 2, 399, 1000);
        ran("two more would be in tick 399", ring(41), 2, 399, 1000);
        ran("the 1,000th is the last in tick 398", ring(40), 2, 398, 1000);
        FallChain x = ring(60);
        ran("983 strikes", x, 1, 399, 983);
        due("the last one's tick", x.strike(982, 0), 399);
        x.noStarts();
        x.start(0, 3, 0);
        ran("one strike in each tick", x, 1, 399, 400);
        due("the last one's tick", x.strike(399, 0), 399);
        due("the latest run counts", x.strike(400, 0), -1);
        x.noStarts();
        x.start(0, 3, 99);
        ran("one strike in each tick from 99 on", x, 1, 399, 301);
        for (int k = 0; k < 3; k++) {
            x.start(0, 3, 0);
        }
        ran("three, and from tick 99 on four", x, 2, 274, 1000);
        x.noStarts();
        for (int k = 0; k < 4; k++) {
            x.start(0, 3, 0);
        }
        ran("four in each tick", x, 2, 249, 1000);
        strike("the last one", x, 999, 249, 1, 3, 995, 0, 0);
    }

    /** The k-th cell of a way to and fro through rows 1 to 7. */
    private static int way(int k) {
        int y = 1 + k / 12;
        return 12 * y + (y % 2 == 1 ? k % 12 : 11 - k % 12);
    }

    /** Eleven splits in row 0 set twelve strikes on their way along 84 levers: 954 strikes, the last in tick 84. */
    private static FallChain longWay() {
        FallChain x = new FallChain();
        for (int cell = 0; cell < 11; cell++) {
            x.put(cell, 5, 0, 0);
        }
        x.put(11, 2, 2, 0);
        for (int k = 0; k < 84; k++) {
            int y = 1 + k / 12;
            x.put(way(k), 2, k % 12 == 11 ? 2 : y % 2 == 1 ? 1 : 3, 0);
        }
        x.start(0, 3, 0);
        return x;
    }

    private static void atRestOrOutOfStrikes() {
        FallChain x = longWay();
        ran("954 strikes", x, 0, 84, 954);
        int[][] due = {{40, 0, 142, 998}, {39, 0, 143, 999}, {38, 2, 144, 1000}, {37, 2, 144, 1000}, {0, 2, 144, 1000}};
        for (int[] d : due) {
            x = longWay();
            x.start(way(d[0]), 0, 99);
            ran("and " + (84 - d[0]), x, d[1], d[2], d[3]);
            due("the last one's tick", x.strike(d[3] - 1, 0), d[2]);
        }
        // A bell at the end is rung by the 1,000th strike, and then nothing is left.
        x = longWay();
        x.raze(95);
        x.put(95, 8, 0, 0);
        x.start(way(38), 0, 99);
        ran("a bell at the end", x, 2, 144, 1000);
        due("thirteen rings", x.ended(95, 1), 13);
        due("the last ring by the 1,000th strike", x.strike(999, 1), 95);
        x.noStarts();
        x.start(0, 3, 0);
        x.start(way(37), 0, 99);
        ran("a bell one too far off", x, 2, 144, 1000);
        due("twelve rings", x.ended(95, 1), 12);
    }

    private static void theLongestRowOfCauses() {
        FallChain x = new FallChain();
        for (int cell = 0; cell < 96; cell++) {
            int y = cell / 12;
            boolean last = y % 2 == 0 ? cell % 12 == 11 : cell % 12 == 0;
            x.put(cell, 2, last ? 2 : y % 2 == 0 ? 1 : 3, 0);
        }
        x.raze(84);
        x.put(84, 8, 0, 0);
        x.start(0, 3, 0);
        ran("95 levers and a bell", x, 0, 95, 96);
        for (int i = 0; i <= 95; i++) {
            due("why(84, " + i + ")", x.why(84, i), i);
        }
        for (int i : new int[] {-1, 96, 97, Integer.MIN_VALUE, Integer.MAX_VALUE}) {
            due("why(84, " + i + ")", x.why(84, i), -1);
        }
    }

    /** By tick 329 999 strikes are done; two balls were struck in tick 328, and roll in tick 329. */
    private static FallChain twoBalls(int first) {
        FallChain x = new FallChain();
        int[][] levers = {{0, 1}, {1, 2}, {13, 3}, {12, 0}};
        for (int[] p : levers) {
            x.put(p[0], 2, p[1], 0);
        }
        for (int k = 0; k < 3; k++) {
            x.start(0, 3, 0);
        }
        int[] waits = {60, 60, 60, 24, 24};
        for (int k = 0; k < 5; k++) {
            x.put(first + k, 4, 1, waits[k]);
        }
        x.put(first + 5, 5, 0, 0);
        x.ball(first + 5 - 12);
        x.ball(first + 5 + 12);
        x.start(first, 3, 99);
        return x;
    }

    private static void asSoonAs1000StrikesAreDone() {
        FallChain x = twoBalls(60);
        ran("1,000th in tick 330, by a lever", x, 2, 330, 1000);
        due("both rolled", x.ended(53, 3) + x.ended(77, 3), 0);
        due("in tick 329 only", x.ended(41, 3) + x.ended(89, 3), 2);
        x.put(41, 8, 0, 0);
        ran("1,000th in tick 329, by the first ball", x, 2, 329, 1000);
        strike("the last one", x, 999, 329, 41, 2, 990, 0, 1);
        due("the bell rang", x.ended(41, 0), 329);
        due("the second did not roll", x.ended(77, 3), 1);
        x.put(89, 8, 0, 0);
        ran("a second bell", x, 2, 329, 1000);
        due("is not rung", x.ended(89, 2), 0);
        x.raze(41);
        ran("1,000th in tick 329, by the second ball", x, 2, 329, 1000);
        due("it rang", x.ended(89, 0), 329);
        due("the first rolled", x.ended(41, 3), 1);
        // At the edge the split sets two strikes: so the first ball's is the 999th, and the 1,000th is a lever's.
        FallChain y = twoBalls(66);
        y.put(47, 8, 0, 0);
        ran("999th by a ball", y, 2, 330, 1000);
        due("it rang", y.ended(47, 0), 329);
        due("the second rolled", y.ended(95, 3), 1);
    }

    private static void theLatestRunIsAskedFor() {
        FallChain x = new FallChain();
        x.put(40, 2, 1, 0);
        x.put(41, 8, 0, 0);
        x.start(40, 0, 3);
        x.start(40, 0, 5);
        ran("two strikes of a lever", x, 0, 6, 4);
        for (int i : new int[] {-1, 4, 999, 1000, Integer.MIN_VALUE, Integer.MAX_VALUE}) {
            for (int what = 0; what <= 5; what++) {
                due("strike(" + i + ", " + what + ")", x.strike(i, what), -1);
            }
        }
        for (int what : new int[] {-1, 6, Integer.MIN_VALUE, Integer.MAX_VALUE}) {
            due("strike(0, " + what + ")", x.strike(0, what), -1);
            due("strike(3, " + what + ")", x.strike(3, what), -1);
            due("ran(" + what + ")", x.ran(what), -1);
        }
        x.noStarts();
        ran("no strikes", x, 0, 0, 0);
        due("no first one", x.strike(0, 0), -1);
        due("no ring", x.ended(41, 0), -1);
        due("not struck", x.ended(41, 2), 0);
        due("no cause", x.why(41, 0), -1);
    }

    private static void tuneFromNoneToAll() {
        FallChain x = new FallChain();
        x.put(40, 8, 0, 0);
        x.put(41, 8, 0, 0);
        x.start(40, 0, 99);
        x.start(41, 0, 0);
        x.start(50, 0, 0);
        x.start(40, 0, 0);
        x.run();
        long[] ticks = {0, 0, 99};
        for (int n : new int[] {0, 1, 2, 3, 4, 100}) {
            x.row(0, 1, n);
            for (int i = 0; i < n && i < 3; i++) {
                x.set(0, i, ticks[i]);
            }
            due("tune of " + n + " elements", x.tune(0), n == 3 ? 1000 : Math.min(n, 3));
        }
        x.row(0, 3, 3);
        for (int differs = 0; differs < 3; differs++) {
            for (int i = 0; i < 3; i++) {
                x.set(0, i, i == differs ? 98 : ticks[i]);
            }
            due("tune of a row that differs at " + differs, x.tune(0), differs);
        }
        for (int i = 0; i < 3; i++) {
            x.set(0, i, (7L << 32) + ticks[i]);
        }
        due("tune of longs, as ints", x.tune(0), 1000);
        x.set(0, 2, (1L << 31) + 99);
        due("bit 31 counts", x.tune(0), 2);
        x.noStarts();
        x.run();
        due("no rings, three elements", x.tune(0), 0);
        x.row(0, 3, 0);
        due("no rings, no elements", x.tune(0), 1000);
    }

    public static void main(String[] args) {
        piecesLeadToEachSideOfEachCell();
        splitsLeadToTheirOtherThreeSides();
        dominoesReachOverOneCellButNotOffThePlan();
        aDominoReachesOverOneEmptyCellOnly();
        onlyDominoesReachOverACell();
        ballsRollFromEachCellToEachSide();
        theSixthStepAndOneMore();
        aSixthStepInAGateOrOnATrack();
        tracksHaveTwoEnds();
        tracksThatLeadOffThePlan();
        theLesserNumberRollsFirst();
        strikesOfBalls();
        leversAreNotStruckFromWhereTheyLead();
        dominoesFallOnceAndOnTheirAxis();
        cordsArePulledOnce();
        timersAndSplitsWorkTheFirstTime();
        bucketsTipTheBthTime();
        bellsRingEachTime();
        aRingInTheFirstCellEndsNoRun();
        onlyDominoesAndGatesChange();
        lostStrikes();
        theCauseIsTheStrikeThatSet();
        gatesAreOpenForGood();
        theRunLeavesThePlan();
        eachRunBeginsAnew();
        atRestFromTheFirst();
        behindTick399();
        ballsBehindTick399();
        whatLeavesThePlanInTick399();
        outOfTicksOrOutOfStrikes();
        atRestOrOutOfStrikes();
        theLongestRowOfCauses();
        asSoonAs1000StrikesAreDone();
        theLatestRunIsAskedFor();
        tuneFromNoneToAll();
        System.out.println(wrong == 0 ? "all answers are as due" : wrong + " answers are not as due");
        if (wrong != 0) {
            System.exit(1);
        }
    }
}
