/** Promises 17 to 21 and 29: what pieces and balls do in a run, how it ends, and what can be asked of it. */
public final class RunPromises {
    private static int wrong = 0;

    private static void due(String what, long got, long want) {
        if (got != want) {
            wrong++;
            System.out.println(what + " answered " + got + ", due is " + want);
        }
    }

    /** Each strike is told as tick, cell, side, cause, 1 if it is lost, 1 if a ball made it. */
    private static void strikes(String when, FallChain x, int[]... strikes) {
        due(when + ": how many strikes", x.ran(2), strikes.length);
        for (int i = 0; i < strikes.length; i++) {
            for (int what = 0; what < 6; what++) {
                due(when + ": strike(" + i + ", " + what + ")", x.strike(i, what), strikes[i][what]);
            }
        }
        due(when + ": strike behind the last", x.strike(strikes.length, 0), -1);
    }

    private static int[] s(int tick, int cell, int side, int cause, int lost, int byBall) {
        return new int[] {tick, cell, side, cause, lost, byBall};
    }

    private static void ran(String when, FallChain x, int end, int tick, int lost, int rang, int gone) {
        due(when + ": run()", x.run(), tick);
        due(when + ": ran(0)", x.ran(0), end);
        due(when + ": ran(1)", x.ran(1), tick);
        due(when + ": ran(3)", x.ran(3), lost);
        due(when + ": ran(4)", x.ran(4), rang);
        due(when + ": ran(5)", x.ran(5), gone);
    }

    private static FallChain with(int[]... pieces) {
        FallChain x = new FallChain();
        for (int[] p : pieces) {
            due("put on " + p[0], p[1] == 10 ? x.ball(p[0]) : x.put(p[0], p[1], p[2], p[3]), 1);
        }
        return x;
    }

    private static int[] p(int cell, int kind, int a, int b) {
        return new int[] {cell, kind, a, b};
    }

    private static int[] ball(int cell) {
        return p(cell, 10, 0, 0);
    }

    private static void starts(FallChain x, int... cellSideTick) {
        for (int i = 0; i < cellSideTick.length; i += 3) {
            x.start(cellSideTick[i], cellSideTick[i + 1], cellSideTick[i + 2]);
        }
    }

    private static void nothingHappens() {
        FallChain x = new FallChain();
        for (int what = -1; what <= 6; what++) {
            due("no run yet: ran", x.ran(what), -1);
            due("no run yet: strike", x.strike(0, what), -1);
            due("no run yet: ended", x.ended(0, what), -1);
        }
        due("no run yet: why", x.why(0, 0), -1);
        ran("empty", x, 0, 0, 0, 0, 0);
        due("another what", x.ran(6), -1);
        due("what -1", x.ran(-1), -1);
        due("no strike", x.strike(0, 0), -1);
        due("ended: no ring", x.ended(0, 0), -1);
        for (int what = 1; what <= 4; what++) {
            due("ended: " + what, x.ended(0, what), 0);
        }
        due("ended of another what", x.ended(0, 5), -1);
        due("ended of what -1", x.ended(0, -1), -1);
        due("ended of cell 96", x.ended(96, 2), -1);
        due("ended of cell -1", x.ended(-1, 2), -1);
        starts(x, 40, 0, 99);
        ran("one lost strike", x, 0, 99, 1, 0, 0);
        strikes("one lost strike", x, s(99, 40, 0, -1, 1, 0));
        due("struck though empty", x.ended(40, 2), 1);
        due("strike -1", x.strike(-1, 0), -1);
        due("strike of another what", x.strike(0, 6), -1);
        due("strike of what -1", x.strike(0, -1), -1);
    }

    private static void dominoesFall() {
        FallChain x = with(p(13, 1, 1, 0), p(14, 1, 1, 0), p(15, 1, 0, 0));
        starts(x, 13, 3, 0, 13, 1, 5, 13, 0, 6);
        ran("dominoes", x, 0, 6, 0, 0, 0);
        strikes("dominoes", x, s(0, 13, 3, -1, 0, 0), s(2, 14, 3, 0, 0, 0), s(4, 15, 3, 1, 0, 0), s(5, 13, 1, -1, 0, 0),
            s(6, 13, 0, -1, 0, 0));
        due("down", x.ended(13, 4), 1);
        due("down, too", x.ended(14, 4), 1);
        due("not of its axis", x.ended(15, 4), 0);
        due("struck three times", x.ended(13, 2), 3);
        x = with(p(13, 1, 0, 0));
        starts(x, 13, 0, 3);
        ran("to side 2", x, 0, 5, 1, 0, 0);
        strikes("to side 2", x, s(3, 13, 0, -1, 0, 0), s(5, 25, 0, 0, 1, 0));
        x = with(p(11, 1, 1, 0), p(94, 1, 0, 0));
        starts(x, 11, 3, 0, 94, 0, 0);
        ran("off the plan", x, 0, 0, 0, 0, 0);
        due("down all the same", x.ended(11, 4) + x.ended(94, 4), 2);
    }

    private static void dominoesReachOverAGap() {
        FallChain x = with(p(13, 1, 1, 0), p(15, 8, 0, 0));
        starts(x, 13, 3, 0);
        ran("gap", x, 0, 2, 0, 1, 0);
        strikes("gap", x, s(0, 13, 3, -1, 0, 0), s(2, 15, 3, 0, 0, 0));
        due("the gap was not struck", x.ended(14, 2), 0);
        x = with(p(13, 1, 1, 0), p(16, 8, 0, 0));
        starts(x, 13, 3, 0);
        ran("gap of two", x, 0, 2, 1, 0, 0);
        due("the next cell is struck", x.ended(14, 2), 1);
        x = with(p(10, 1, 1, 0));
        starts(x, 10, 3, 0);
        ran("gap at the edge", x, 0, 2, 1, 0, 0);
        due("the last cell is struck", x.strike(1, 1), 11);
        x = with(p(13, 1, 1, 0), ball(15));
        starts(x, 13, 3, 0);
        ran("ball behind the gap", x, 0, 8, 0, 0, 0);
        due("the ball is struck from side 3", x.strike(1, 2), 3);
        due("the ball rolled six cells", x.ended(21, 3), 1);
        x = with(p(13, 1, 1, 0), ball(14), p(15, 8, 0, 0));
        starts(x, 13, 3, 0);
        ran("ball in the next cell", x, 0, 3, 0, 1, 0);
        strikes("ball in the next cell", x, s(0, 13, 3, -1, 0, 0), s(2, 14, 3, 0, 0, 0), s(3, 15, 3, 1, 0, 1));
        x = with(p(2, 1, 1, 0), p(0, 8, 0, 0));
        starts(x, 2, 1, 0);
        ran("gap before the first cell", x, 0, 2, 0, 1, 0);
        // The row's edge is the plan's edge: cell 12 is not behind cell 11.
        x = with(p(10, 1, 1, 0), p(12, 8, 0, 0));
        starts(x, 10, 3, 0);
        ran("round the edge", x, 0, 2, 1, 0, 0);
    }

    private static void onlyDominoesReachOverAGap() {
        int[][] others = {p(13, 2, 1, 0), p(13, 4, 1, 1), p(13, 5, 0, 0), p(13, 6, 1, 1)};
        for (int[] other : others) {
            FallChain x = with(other, p(15, 8, 0, 0), p(37, 8, 0, 0));
            starts(x, 13, 3, 0);
            ran("kind " + other[1], x, 0, 1, other[1] == 5 ? 3 : 1, 0, 0);
            due("the gap is struck", x.ended(14, 2), 1);
        }
        FallChain x = with(p(15, 8, 0, 0));
        x.cords(13, 1, 50, 0);
        starts(x, 50, 1, 0, 14, 3, 5);
        ran("a cord", x, 0, 5, 2, 0, 0);
        due("starts and cords strike the gap", x.ended(14, 2), 2);
        x = with(ball(13), p(16, 8, 0, 0));
        starts(x, 13, 3, 0);
        ran("a ball", x, 0, 3, 0, 1, 0);
        due("a ball goes up to the bell", x.ended(15, 3), 1);
    }

    private static void eachRunBeginsAnew() {
        FallChain x = with(ball(11), p(40, 8, 0, 0), p(50, 7, 0, 0), p(60, 1, 0, 0));
        starts(x, 11, 3, 0, 40, 0, 0, 50, 0, 0, 60, 0, 0);
        for (int i = 0; i < 2; i++) {
            ran("twice", x, 0, 2, 1, 1, 1);
            due("rings", x.ended(40, 1), 1);
            due("strikes of a cell", x.ended(50, 2), 1);
            due("strikes", x.ran(2), 5);
            due("open and down", x.ended(50, 4) + x.ended(60, 4), 2);
        }
        due("rung by number 1", x.why(40, 0), 1);
        x.noStarts();
        starts(x, 40, 0, 3);
        ran("another start", x, 0, 3, 0, 1, 0);
        due("rung by number 0", x.why(40, 0), 0);
        due("the ball lies", x.ended(11, 3), 1);
        due("shut and standing", x.ended(50, 4) + x.ended(60, 4), 0);
    }

    private static void aGapIsSeenWhenTheStrikeIsDone() {
        // The ball leaves cell 14 in tick 1, so the strike of tick 2 goes on to the bell.
        FallChain x = with(p(13, 1, 1, 0), ball(14), p(15, 8, 0, 0));
        starts(x, 13, 3, 0, 14, 0, 0);
        ran("ball that left", x, 0, 6, 0, 1, 0);
        due("bell struck over the gap", x.strike(2, 1), 15);
        // The ball rolls into cell 14 in tick 1, so the strike of tick 2 finds it rolling there.
        x = with(p(13, 1, 1, 0), ball(2), p(15, 8, 0, 0));
        starts(x, 13, 3, 0, 2, 0, 0);
        ran("ball that came", x, 0, 6, 0, 0, 0);
        due("rolling ball struck", x.strike(2, 1), 14);
        due("it was not lost", x.strike(2, 4), 0);
        due("the bell was not struck", x.ended(15, 2), 0);
    }

    private static void leversLead() {
        FallChain x = with(p(13, 2, 2, 0));
        starts(x, 13, 0, 0, 13, 2, 5, 13, 1, 7, 13, 3, 9);
        ran("lever", x, 0, 10, 3, 0, 0);
        strikes("lever", x, s(0, 13, 0, -1, 0, 0), s(1, 25, 0, 0, 1, 0), s(5, 13, 2, -1, 0, 0), s(7, 13, 1, -1, 0, 0),
            s(8, 25, 0, 3, 1, 0), s(9, 13, 3, -1, 0, 0), s(10, 25, 0, 5, 1, 0));
        x = with(p(0, 2, 0, 0), p(12, 2, 3, 0));
        starts(x, 0, 2, 0, 12, 1, 0);
        ran("levers off the plan", x, 0, 0, 0, 0, 0);
    }

    private static void cordsPull() {
        FallChain x = new FallChain();
        x.cords(13, 2, 50, 1);
        starts(x, 13, 2, 0, 13, 0, 4, 50, 0, 6);
        ran("cords", x, 0, 6, 1, 0, 0);
        strikes("cords", x, s(0, 13, 2, -1, 0, 0), s(1, 51, 3, 0, 1, 0), s(4, 13, 0, -1, 0, 0), s(6, 50, 0, -1, 0, 0));
        x = new FallChain();
        x.cords(13, 2, 50, 1);
        starts(x, 50, 1, 2);
        ran("the other cord", x, 0, 3, 1, 0, 0);
        strikes("the other cord", x, s(2, 50, 1, -1, 0, 0), s(3, 25, 0, 0, 1, 0));
        x = new FallChain();
        x.cords(13, 2, 0, 0);
        starts(x, 13, 2, 0, 0, 2, 3);
        ran("a cord off the plan is used up", x, 0, 3, 0, 0, 0);
    }

    private static void timersWait() {
        FallChain x = with(p(13, 4, 1, 7));
        starts(x, 13, 1, 2, 13, 3, 3);
        ran("timer", x, 0, 9, 1, 0, 0);
        strikes("timer", x, s(2, 13, 1, -1, 0, 0), s(3, 13, 3, -1, 0, 0), s(9, 14, 3, 0, 1, 0));
    }

    private static void splitsSpread() {
        FallChain x = with(p(13, 5, 0, 0));
        starts(x, 13, 1, 0, 13, 0, 4);
        ran("split", x, 0, 4, 3, 0, 0);
        strikes("split", x, s(0, 13, 1, -1, 0, 0), s(1, 1, 2, 0, 1, 0), s(1, 25, 0, 0, 1, 0), s(1, 12, 1, 0, 1, 0),
            s(4, 13, 0, -1, 0, 0));
        x = with(p(0, 5, 0, 0));
        starts(x, 0, 3, 0);
        ran("split in the corner", x, 0, 1, 2, 0, 0);
        strikes("split in the corner", x, s(0, 0, 3, -1, 0, 0), s(1, 1, 3, 0, 1, 0), s(1, 12, 0, 0, 1, 0));
    }

    private static void bucketsTip() {
        FallChain x = with(p(13, 6, 1, 3));
        starts(x, 13, 0, 0, 13, 1, 1, 13, 3, 5, 13, 3, 9);
        ran("bucket", x, 0, 9, 1, 0, 0);
        strikes("bucket", x, s(0, 13, 0, -1, 0, 0), s(1, 13, 1, -1, 0, 0), s(5, 13, 3, -1, 0, 0), s(6, 14, 3, 2, 1, 0),
            s(9, 13, 3, -1, 0, 0));
        x = with(p(13, 6, 1, 1));
        starts(x, 13, 1, 0, 13, 3, 2);
        ran("bucket of one", x, 0, 2, 1, 0, 0);
        due("tips at once", x.strike(1, 0), 1);
    }

    private static void bellsRing() {
        FallChain x = with(p(13, 8, 0, 0), p(20, 8, 0, 0));
        starts(x, 13, 0, 8, 13, 2, 4, 20, 1, 4, 13, 3, 4);
        ran("bells", x, 0, 8, 0, 4, 0);
        due("first ring", x.ended(13, 0), 4);
        due("rings", x.ended(13, 1), 3);
        due("other first ring", x.ended(20, 0), 4);
        due("other rings", x.ended(20, 1), 1);
        due("a bell is not open", x.ended(13, 4), 0);
        due("no bell, no ring", x.ended(14, 0), -1);
        due("no bell, no rings", x.ended(14, 1), 0);
        strikes("bells", x, s(4, 13, 2, -1, 0, 0), s(4, 20, 1, -1, 0, 0), s(4, 13, 3, -1, 0, 0), s(8, 13, 0, -1, 0, 0));
    }

    private static void aRingEndsNoRun() {
        FallChain x = with(p(0, 8, 0, 0));
        starts(x, 0, 3, 0, 50, 0, 5, 0, 0, 7);
        ran("a bell in the first cell", x, 0, 7, 1, 2, 0);
        due("rings", x.ended(0, 1), 2);
    }

    private static void gatesAndTracksTakeStrikes() {
        FallChain x = with(p(13, 7, 0, 0), p(20, 9, 3, 0));
        starts(x, 13, 0, 1, 13, 0, 2, 20, 0, 3);
        ran("gate and track", x, 0, 3, 0, 0, 0);
        due("open for good", x.ended(13, 4), 1);
        due("a track is not open", x.ended(20, 4), 0);
        due("the plan stays as it is", x.at(13, 0), 7);
        x.noStarts();
        x.run();
        due("shut again in the next run", x.ended(13, 4), 0);
    }

    private static void ballsRollSixSteps() {
        FallChain x = with(ball(12));
        starts(x, 12, 3, 0);
        ran("six steps", x, 0, 6, 0, 0, 0);
        due("it lies in cell 18", x.ended(18, 3), 1);
        due("it left cell 12", x.ended(12, 3), 0);
        due("the plan stays as it is", x.at(12, 3), 1);
        x.noStarts();
        starts(x, 12, 3, 0, 14, 0, 2, 18, 2, 6, 18, 3, 7);
        // Tick 2: its roll into cell 14 comes only behind the strikes. Tick 6: its last step, too. From tick 8 on it rolls
        // again, and is gone with its sixth step.
        ran("struck as it rolls", x, 0, 13, 2, 0, 1);
        strikes("struck as it rolls", x, s(0, 12, 3, -1, 0, 0), s(2, 14, 0, -1, 1, 0), s(6, 18, 2, -1, 1, 0), s(7, 18, 3, -1, 0, 0));
    }

    private static void ballsRollOff() {
        FallChain x = with(ball(10));
        starts(x, 10, 3, 0, 10, 3, 5);
        ran("gone", x, 0, 5, 1, 0, 1);
        due("nowhere", x.ended(11, 3) + x.ended(10, 3), 0);
        x = with(ball(9));
        starts(x, 9, 2, 0);
        ran("gone to side 0", x, 0, 1, 0, 0, 1);
        x = with(ball(95), ball(84));
        starts(x, 95, 0, 0, 84, 1, 3);
        ran("two gone", x, 0, 4, 0, 0, 2);
    }

    private static void rollingBallsHeedNoStrike() {
        FallChain x = with(ball(12));
        starts(x, 12, 3, 0, 13, 0, 2, 14, 0, 3);
        ran("rolling", x, 0, 6, 0, 0, 0);
        due("not lost: it rolled there", x.strike(1, 4), 0);
        due("it lies in cell 18 all the same", x.ended(18, 3), 1);
        due("struck cell", x.ended(13, 2), 1);
    }

    private static void ballsOnTracks() {
        // Ends 1 and 3 of cell 1, then a bend from side 3 down to side 2, then a straight one.
        FallChain x = with(p(1, 9, 10, 0), ball(1), p(2, 9, 12, 0), p(14, 9, 5, 0));
        starts(x, 1, 0, 0, 1, 3, 1);
        ran("tracks", x, 0, 7, 0, 0, 0);
        strikes("tracks", x, s(0, 1, 0, -1, 0, 0), s(1, 1, 3, -1, 0, 0));
        due("it lies five cells below the bend", x.ended(62, 3), 1);
        // The end of the next track does not face it.
        x = with(ball(12), p(13, 9, 5, 0));
        starts(x, 12, 3, 0);
        ran("no end", x, 0, 1, 0, 0, 0);
        strikes("no end", x, s(0, 12, 3, -1, 0, 0), s(1, 13, 3, 0, 0, 1));
        due("it lies in front", x.ended(12, 3), 1);
        // With no step left it lies on the track, and from there rolls only to an end.
        x = with(ball(12), p(18, 9, 12, 0));
        starts(x, 12, 3, 0, 18, 3, 8, 18, 0, 9);
        ran("last step onto a track", x, 0, 15, 0, 0, 0);
        strikes("last step onto a track", x, s(0, 12, 3, -1, 0, 0), s(8, 18, 3, -1, 0, 0), s(9, 18, 0, -1, 0, 0));
        due("it lies six cells below", x.ended(90, 3), 1);
    }

    private static void ballsAndGates() {
        FallChain x = with(ball(12), p(14, 7, 0, 0));
        starts(x, 12, 3, 0);
        ran("shut gate", x, 0, 2, 0, 0, 0);
        strikes("shut gate", x, s(0, 12, 3, -1, 0, 0), s(2, 14, 3, 0, 0, 1));
        due("it lies in front", x.ended(13, 3), 1);
        due("the gate is open", x.ended(14, 4), 1);
        x.start(14, 0, 1);
        ran("open gate", x, 0, 6, 0, 0, 0);
        due("it rolled through", x.ended(18, 3), 1);
        // The sixth step ends in the gate; from there it rolls on, when struck, to any side.
        x = with(ball(12), p(18, 7, 0, 0));
        starts(x, 12, 3, 0, 18, 0, 1, 18, 0, 8);
        ran("in the gate", x, 0, 14, 0, 0, 0);
        due("it lies below", x.ended(90, 3), 1);
        due("still open", x.ended(18, 4), 1);
    }

    private static void ballsStrikePiecesAndBalls() {
        FallChain x = with(ball(12), p(14, 8, 0, 0));
        starts(x, 12, 3, 0, 13, 3, 5);
        ran("bell", x, 0, 6, 0, 2, 0);
        strikes("bell", x, s(0, 12, 3, -1, 0, 0), s(2, 14, 3, 0, 0, 1), s(5, 13, 3, -1, 0, 0), s(6, 14, 3, 2, 0, 1));
        x = with(ball(12), ball(14));
        starts(x, 12, 3, 0);
        ran("ball on ball", x, 0, 8, 0, 0, 0);
        strikes("ball on ball", x, s(0, 12, 3, -1, 0, 0), s(2, 14, 3, 0, 0, 1));
        due("the first lies", x.ended(13, 3), 1);
        due("the second rolled with six steps", x.ended(20, 3), 1);
        // A domino struck by a ball, at once, sets its strike for two ticks later.
        x = with(ball(12), p(14, 1, 1, 0), p(15, 8, 0, 0));
        starts(x, 12, 3, 0);
        ran("domino", x, 0, 4, 0, 1, 0);
        due("rung", x.strike(2, 0), 4);
    }

    private static void ballsMeet() {
        // Both roll; in tick 1 the lesser goes to 13, the other to 14; in tick 2 the lesser strikes the other one, which
        // rolls: nothing; then the other one strikes the lesser, which lies by then: it rolls back.
        FallChain x = with(ball(12), ball(15));
        starts(x, 12, 3, 0, 15, 1, 0);
        ran("meeting", x, 0, 4, 0, 0, 1);
        strikes("meeting", x, s(0, 12, 3, -1, 0, 0), s(0, 15, 1, -1, 0, 0), s(2, 14, 3, 0, 0, 1), s(2, 13, 1, 1, 0, 1));
        due("the other one lies", x.ended(14, 3), 1);
        due("the lesser is gone", x.ended(12, 3) + x.ended(13, 3), 0);
        // The lesser rolls first, so the one that follows it finds the cell free; the other way about it does not.
        x = with(ball(13), ball(12));
        starts(x, 13, 3, 0, 12, 3, 0);
        ran("a row of two, the back one first", x, 0, 6, 0, 0, 0);
        strikes("a row of two, the back one first", x, s(0, 13, 3, -1, 0, 0), s(0, 12, 3, -1, 0, 0), s(1, 13, 3, 1, 0, 1));
        due("the back one lies", x.ended(12, 3), 1);
        x = with(ball(12), ball(13));
        starts(x, 13, 1, 0, 12, 1, 0);
        ran("a row of two, the front one first", x, 0, 2, 0, 0, 2);
        due("the back one followed", x.ran(2), 2);
    }

    private static void numbersArePlanNumbers() {
        // Ball 0 starts in cell 1 and comes to lie right in the way; numbers stay those of the plan.
        FallChain x = with(ball(1), ball(36));
        starts(x, 1, 0, 0, 36, 3, 2);
        // Ball 0 is in cells 13, 25, 37 in ticks 1 to 3; ball 1 would roll into 37 in tick 3, behind ball 0.
        ran("numbers", x, 0, 6, 0, 0, 0);
        strikes("numbers", x, s(0, 1, 0, -1, 0, 0), s(2, 36, 3, -1, 0, 0), s(3, 37, 3, 1, 0, 1));
        due("ball 0 rolled on", x.ended(73, 3), 1);
        due("ball 1 lies", x.ended(36, 3), 1);
    }

    private static void strikesOfATickAreInTheOrderOfSetting() {
        // The start of tick 2 was set ahead of what the domino sets in tick 0 and the lever in tick 1.
        FallChain x = with(p(13, 1, 1, 0), p(14, 8, 0, 0), p(40, 2, 1, 0), p(60, 8, 0, 0));
        starts(x, 40, 3, 1, 13, 3, 0, 60, 0, 2);
        ran("order", x, 0, 2, 1, 2, 0);
        strikes("order", x, s(0, 13, 3, -1, 0, 0), s(1, 40, 3, -1, 0, 0), s(2, 60, 0, -1, 0, 0), s(2, 14, 3, 0, 0, 0),
            s(2, 41, 3, 1, 1, 0));
    }

    /** Four levers in a ring, so that a strike goes round for ever. */
    private static FallChain ring(int at) {
        return with(p(at, 2, 1, 0), p(at + 1, 2, 2, 0), p(at + 13, 2, 3, 0), p(at + 12, 2, 0, 0));
    }

    private static void runsEndBehindTick399() {
        FallChain x = ring(0);
        starts(x, 0, 3, 0);
        ran("ring", x, 1, 399, 0, 0, 0);
        due("a strike a tick", x.ran(2), 400);
        due("the last one", x.strike(399, 0), 399);
        // Timers bring a strike to tick 399.
        int[][] timers = {p(0, 4, 1, 60), p(1, 4, 1, 60), p(2, 4, 1, 60), p(3, 4, 1, 60), p(4, 4, 1, 60)};
        x = with(timers);
        x.put(5, 8, 0, 0);
        starts(x, 0, 3, 99);
        ran("a bell in tick 399", x, 0, 399, 0, 1, 0);
        due("rung in 399", x.ended(5, 0), 399);
        x.raze(5);
        x.put(5, 4, 1, 60);
        ran("a strike set for tick 459", x, 1, 399, 0, 0, 0);
        due("it is not done", x.ran(2), 6);
        x.raze(5);
        x.ball(5);
        ran("a ball that would roll in tick 400", x, 1, 399, 0, 0, 0);
        due("it did not", x.ended(5, 3), 1);
        x.raze(5);
        ran("lost in tick 399", x, 0, 399, 1, 0, 0);
        x.noStarts();
        starts(x, 0, 3, 98);
        x.ball(5);
        ran("a ball that rolls in tick 399 only", x, 1, 399, 0, 0, 0);
        due("it rolled once", x.ended(6, 3), 1);
    }

    private static void runsEndWithStrike1000() {
        FallChain x = ring(0);
        starts(x, 0, 3, 0, 1, 3, 0, 13, 0, 0, 12, 1, 0);
        ran("four in the ring", x, 2, 249, 0, 0, 0);
        due("1,000 strikes", x.ran(2), 1000);
        due("the last one", x.strike(999, 0), 249);
        due("no more", x.strike(1000, 0), -1);
        due("cause of the last one", x.strike(999, 3), 995);
        x.noStarts();
        starts(x, 0, 3, 0, 0, 3, 0, 0, 3, 0);
        ran("three in the ring", x, 2, 333, 0, 0, 0);
        due("1,000 strikes, the last in the midst of a tick", x.ran(2), 1000);
        due("999 before it", x.strike(998, 0), 332);
        // Five strikes bring a ball to roll in tick 331; the 1,000th is done before the balls' turn in that tick.
        x.put(60, 4, 1, 60);
        x.put(61, 4, 1, 60);
        x.put(62, 4, 1, 60);
        x.put(63, 4, 1, 51);
        x.ball(64);
        starts(x, 60, 3, 99);
        ran("a ball that rolled", x, 2, 331, 0, 0, 0);
        due("not in that tick", x.ended(64, 3), 1);
    }

    private static void strike1000IsWhole() {
        // Three strikes a tick go round, and six timers are struck ahead of tick 331: 993 and 6 are done by then. The next
        // is the bell's, as it was set ahead of the three of the ring for that tick.
        FallChain x = ring(0);
        starts(x, 0, 3, 0, 0, 3, 0, 0, 3, 0, 60, 3, 99);
        int[] waits = {60, 60, 60, 40, 6, 6};
        for (int i = 0; i < waits.length; i++) {
            x.put(60 + i, 4, 1, waits[i]);
        }
        x.put(66, 8, 0, 0);
        ran("the bell is number 999", x, 2, 331, 0, 1, 0);
        due("1,000 strikes", x.ran(2), 1000);
        due("it rang", x.ended(66, 0), 331);
        due("by number 999", x.why(66, 6), 999);
        due("so it does for a wish", x.met(66, 331) ? 1 : 0, 1);
        x.raze(65);
        x.put(65, 4, 1, 7);
        ran("a tick later it is not struck", x, 2, 331, 0, 0, 0);
        due("no ring", x.ended(66, 0), -1);
        due("nor for a wish", x.met(66, -1) ? 1 : 0, 0);
    }

    private static void theLatestRunIsKept() {
        FallChain x = with(p(13, 1, 1, 0), p(14, 8, 0, 0));
        starts(x, 13, 3, 1);
        ran("latest", x, 0, 3, 0, 1, 0);
        x.keep(0);
        x.raze(14);
        x.raze(13);
        x.noStarts();
        x.put(14, 7, 0, 0);
        x.met(14, -1);
        x.fragile(14, -1);
        x.fits(40, 14, -1);
        x.fewest(14, -1);
        due("ran", x.ran(1), 3);
        due("ran strikes", x.ran(2), 2);
        due("strike", x.strike(1, 1), 14);
        due("ended ring", x.ended(14, 0), 3);
        due("ended down", x.ended(13, 4), 1);
        due("why", x.why(14, 1), 1);
        x.load(0);
        due("wishes of another plan", x.fits(40, 14, 3) > 0 ? 1 : 0, 1);
        due("ran still", x.ran(1), 3);
        due("runs", x.status(4), 1);
    }

    private static void whyTellsTheCauses() {
        FallChain x = with(p(13, 1, 1, 0), ball(14), p(16, 5, 0, 0), p(17, 8, 0, 0), p(28, 8, 0, 0), p(62, 8, 0, 0), p(61, 2, 1, 0));
        starts(x, 61, 0, 0, 13, 3, 1, 62, 0, 0);
        x.run();
        // 0 lever, 1 bell 62, 2 domino (a start, set ahead of 3), 3 bell 62, 4 ball, 5 split, 6 cell 4, 7 bell 17, 8 bell 28.
        due("strikes", x.ran(2), 9);
        int[] chain = {2, 4, 5, 7};
        for (int i = 0; i < chain.length; i++) {
            due("why(17, " + i + ")", x.why(17, i), chain[i]);
        }
        due("behind the last", x.why(17, 4), -1);
        due("bell struck next", x.why(28, 3), 8);
        due("struck by a start", x.why(62, 0), 1);
        due("a row of one", x.why(62, 1), -1);
        due("i -1", x.why(17, -1), -1);
        due("i far off", x.why(17, Integer.MAX_VALUE), -1);
        due("i far below", x.why(17, Integer.MIN_VALUE), -1);
        due("no bell", x.why(13, 0), -1);
        due("no cell", x.why(96, 0), -1);
        due("cell -1", x.why(-1, 0), -1);
        due("struck, but no bell", x.why(16, 0), -1);
    }

    private static void tuneIsHeldAgainstTheRings() {
        FallChain x = with(p(13, 8, 0, 0), p(20, 8, 0, 0));
        x.row(0, 0, 0);
        due("no run: no rings, no elements", x.tune(0), 1000);
        x.row(1, 3, 3);
        due("no run: no rings", x.tune(1), 0);
        starts(x, 13, 0, 8, 20, 2, 4, 20, 1, 9);
        x.run();
        int[] ticks = {4, 8, 9};
        for (int i = 0; i < 3; i++) {
            x.set(1, i, ticks[i]);
        }
        due("all agree", x.tune(1), 1000);
        x.set(1, 0, 4294967296L * 7 + 4);
        due("as ints", x.tune(1), 1000);
        x.set(1, 2, 10);
        due("two agree", x.tune(1), 2);
        x.set(1, 0, 3);
        due("none agrees from the first on", x.tune(1), 0);
        x.row(2, 1, 2);
        x.set(2, 0, 4);
        x.set(2, 1, 8);
        due("fewer elements", x.tune(2), 2);
        x.row(2, 0, 4);
        for (int i = 0; i < 3; i++) {
            x.set(2, i, ticks[i]);
        }
        due("more elements", x.tune(2), 3);
        due("rings, no elements", x.tune(0), 0);
        x.raze(13);
        due("the latest run counts", x.tune(2), 3);
        x.noStarts();
        x.put(13, 8, 0, 0);
        starts(x, 13, 0, 0, 20, 0, 0);
        x.run();
        x.row(5, 2, 1);
        due("two rings in tick 0, one element", x.tune(5), 1);
        due("two rings in tick 0, no element", x.tune(0), 0);
        x.row(5, 2, 2);
        due("two rings in tick 0, two elements", x.tune(5), 1000);
        x.keep(3);
        due("shelf 8", x.tune(8), -1);
        due("shelf -1", x.tune(-1), -1);
        due("a plan", x.tune(3), -2);
        due("nothing", x.tune(4), -3);
        due("refusals -1", x.status(11), 2);
        due("refusals -2", x.status(12), 1);
        due("refusals -3", x.status(13), 1);
    }

    public static void main(String[] args) {
        nothingHappens();
        dominoesFall();
        dominoesReachOverAGap();
        onlyDominoesReachOverAGap();
        eachRunBeginsAnew();
        aGapIsSeenWhenTheStrikeIsDone();
        leversLead();
        cordsPull();
        timersWait();
        splitsSpread();
        bucketsTip();
        bellsRing();
        aRingEndsNoRun();
        gatesAndTracksTakeStrikes();
        ballsRollSixSteps();
        ballsRollOff();
        rollingBallsHeedNoStrike();
        ballsOnTracks();
        ballsAndGates();
        ballsStrikePiecesAndBalls();
        ballsMeet();
        numbersArePlanNumbers();
        strikesOfATickAreInTheOrderOfSetting();
        runsEndBehindTick399();
        runsEndWithStrike1000();
        strike1000IsWhole();
        theLatestRunIsKept();
        whyTellsTheCauses();
        tuneIsHeldAgainstTheRings();
        System.out.println(wrong == 0 ? "all answers are as due" : wrong + " answers are not as due");
        if (wrong != 0) {
            System.exit(1);
        }
    }
}
