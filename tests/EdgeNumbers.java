/**
 * The least and the greatest of each number that the document names, and one beyond each: cells, sides, kinds, a, b, ticks,
 * shelves, sorts, sizes, elements and starts; and what answers NONE or 0. (That refused calls change nothing is shown in
 * EdgeRefusals.)
 */
public final class EdgeNumbers {
    private static final int LEAST = Integer.MIN_VALUE;
    private static final int GREATEST = Integer.MAX_VALUE;
    private static final int[] NO_CELLS = {-1, 96, -96, 192, LEAST, GREATEST};
    private static final int[] NO_SIDES = {-1, 4, LEAST, GREATEST};
    private static final int[] NO_SHELVES = {-1, 8, LEAST, GREATEST};

    private static int wrong = 0;

    private static void due(String what, long got, long want) {
        if (got != want) {
            wrong++;
            System.out.println(what + " answered " + got + ", due is " + want);
        }
    }

    private static void fill(FallChain x, int s, int sort, long... values) {
        due("row", x.row(s, sort, values.length), 1);
        for (int i = 0; i < values.length; i++) {
            due("set", x.set(s, i, values[i]), 1);
        }
    }

    private static int refusals(FallChain x) {
        int all = 0;
        for (int what = 11; what <= 17; what++) {
            all += x.status(what);
        }
        return all;
    }

    // ---- a new object

    private static void aNewObjectIsEmpty() {
        due("NONE", FallChain.NONE, -1);
        FallChain x = new FallChain();
        for (int cell = 0; cell < 96; cell++) {
            for (int what = 0; what <= 4; what++) {
                due("new: at(" + cell + ", " + what + ")", x.at(cell, what), what == 4 ? -1 : 0);
            }
        }
        FallChain y = new FallChain();
        for (int what = 0; what <= 4; what++) {
            due("new: status(" + what + ")", y.status(what), 0);
        }
        due("new: refusals", refusals(y), 0);
        for (int s = 0; s <= 7; s++) {
            due("new: holds(" + s + ")", y.holds(s), -1);
            due("new: element(" + s + ", 0)", y.element(s, 0), 0);
        }
        due("new: noStarts", y.noStarts(), 0);
        due("new: weak", y.weak(0), -1);
        due("new: fit", y.fit(0), -1);
        due("new: fewestPiece", y.fewestPiece(0), -1);
        due("new: met", y.met(0, -1) ? 1 : 0, 0);
        due("new: fragile", y.fragile(0, -1), -1);
        due("new: fits", y.fits(0, 0, -1), 0);
        due("new: fewest", y.fewest(0, -1), -1);
        due("new: the wishes were no run()", y.ran(0), -1);
    }

    private static void nothingOfARunThatWasNot() {
        FallChain x = new FallChain();
        x.put(0, 8, 0, 0);
        x.put(95, 1, 0, 0);
        x.start(0, 0, 0);
        due("no run: a wish is met", x.met(0, 0) ? 1 : 0, 1);
        for (int what = -1; what <= 6; what++) {
            due("no run: ran(" + what + ")", x.ran(what), -1);
            due("no run: strike(0, " + what + ")", x.strike(0, what), -1);
            due("no run: ended(0, " + what + ")", x.ended(0, what), -1);
            due("no run: ended(95, " + what + ")", x.ended(95, what), -1);
        }
        due("no run: why", x.why(0, 0), -1);
        due("no run: status(4)", x.status(4), 0);
        x.row(0, 2, 0);
        due("no run: no rings and no elements", x.tune(0), 1000);
        x.row(0, 2, 1);
        due("no run: no rings, one element", x.tune(0), 0);
        x.row(0, 2, 100);
        due("no run: no rings, 100 elements", x.tune(0), 0);
        due("one run", x.run(), 0);
        due("status(4) of one run", x.status(4), 1);
        due("ended of one run", x.ended(0, 0), 0);
    }

    // ---- cells and sides

    private static void theFirstAndTheLastCell() {
        for (int cell : new int[] {0, 95}) {
            FallChain x = new FallChain();
            due("put on " + cell, x.put(cell, 8, 0, 0), 1);
            due("at " + cell, x.at(cell, 0), 8);
            due("start on " + cell, x.start(cell, 0, 0), 1);
            due("run of " + cell, x.run(), 0);
            due("ended of " + cell, x.ended(cell, 1), 1);
            due("why of " + cell, x.why(cell, 0), 0);
            due("strike of " + cell, x.strike(0, 1), cell);
            due("met of " + cell, x.met(cell, -1) ? 1 : 0, 1);
            due("fragile of " + cell, x.fragile(cell, -1), 0);
            due("fewest of " + cell, x.fewest(cell, -1), 0);
            due("raze of " + cell, x.raze(cell), 8);
            due("ball on " + cell, x.ball(cell), 1);
            due("ball at " + cell, x.at(cell, 3), 1);
            due("raze of a ball on " + cell, x.raze(cell), 0);
            x.put(50, 8, 0, 0);
            due("fits of " + cell, x.fits(cell, 50, -1), 0);
            due("no refusals", refusals(x), 0);
        }
        FallChain x = new FallChain();
        due("cords of the first and the last cell", x.cords(0, 0, 95, 3), 1);
        due("the first one's other", x.at(0, 4), 95);
        due("the last one's other", x.at(95, 4), 0);
        x.raze(0);
        due("cords of the last and the first cell", x.cords(95, 3, 0, 0), 1);
    }

    private static void beyondTheCells() {
        for (int cell : NO_CELLS) {
            FallChain x = new FallChain();
            x.run();
            due("put on " + cell, x.put(cell, 8, 0, 0), -1);
            due("cords from " + cell, x.cords(cell, 0, 5, 0), -1);
            due("cords to " + cell, x.cords(5, 0, cell, 0), -1);
            due("ball on " + cell, x.ball(cell), -1);
            due("raze of " + cell, x.raze(cell), -1);
            due("start on " + cell, x.start(cell, 0, 0), -1);
            due("fits of " + cell, x.fits(cell, 0, -1), -1);
            due("refusals -1", x.status(11), 7);
            due("refusals", refusals(x), 7);
            for (int what = 0; what <= 4; what++) {
                due("at of " + cell, x.at(cell, what), -1);
                due("ended of " + cell, x.ended(cell, what), -1);
            }
            due("why of " + cell, x.why(cell, 0), -1);
            due("met of " + cell, x.met(cell, -1) ? 1 : 0, 0);
            due("fragile of " + cell, x.fragile(cell, -1), -1);
            due("fewest of " + cell, x.fewest(cell, -1), -1);
            due("fits for a bell in " + cell, x.fits(0, cell, -1), 0);
            due("refusals still", refusals(x), 7);
        }
    }

    private static void theSides() {
        for (int side = 0; side <= 3; side++) {
            FallChain x = new FallChain();
            due("start from side " + side, x.start(40, side, 0), 1);
            x.run();
            due("struck from side " + side, x.strike(0, 2), side);
            due("cords to side " + side, x.cords(50, side, 60, 3 - side), 1);
            due("first cord's side", x.at(50, 1), side);
            due("second cord's side", x.at(60, 1), 3 - side);
        }
        for (int side : NO_SIDES) {
            FallChain x = new FallChain();
            due("start from side " + side, x.start(40, side, 0), -6);
            due("first cord's side " + side, x.cords(50, side, 60, 0), -6);
            due("second cord's side " + side, x.cords(50, 0, 60, side), -6);
            due("no start", x.status(2), 0);
            due("no piece", x.status(0), 0);
        }
    }

    // ---- pieces

    private static boolean has(int[] numbers, int number) {
        for (int n : numbers) {
            if (n == number) {
                return true;
            }
        }
        return false;
    }

    private static void theKinds() {
        int[] kinds = {1, 2, 4, 5, 6, 7, 8, 9};
        for (int kind = -3; kind <= 20; kind++) {
            FallChain x = new FallChain();
            int a = kind == 9 ? 3 : 0;
            boolean right = has(kinds, kind);
            due("put of kind " + kind, x.put(0, kind, a, 1), right ? 1 : -6);
            due("kind " + kind + " there", x.at(0, 0), right ? kind : 0);
            due("pieces of kind " + kind, x.status(0), right ? 1 : 0);
        }
        for (int kind : new int[] {LEAST, GREATEST, 256 + 1, 65536 + 8}) {
            due("put of kind " + kind, new FallChain().put(0, kind, 0, 1), -6);
        }
    }

    private static void theNumberA() {
        int[][] right = {
            {}, {0, 1}, {0, 1, 2, 3}, {}, {0, 1, 2, 3}, {}, {0, 1, 2, 3}, {}, {}, {3, 5, 6, 9, 10, 12},
        };
        // Two bits set are no two ends if one of them is beyond 8.
        int[] tried = {LEAST, LEAST + 1, -4, -2, 17, 18, 20, 24, 33, 48, 96, 256, 257, 259, 65539, 1 << 30, GREATEST - 1, GREATEST};
        for (int kind : new int[] {1, 2, 4, 6, 9}) {
            for (int a = -1; a <= 16; a++) {
                aOf(kind, a, has(right[kind], a));
            }
            for (int a : tried) {
                aOf(kind, a, false);
            }
        }
    }

    private static void aOf(int kind, int a, boolean right) {
        FallChain x = new FallChain();
        due("put of kind " + kind + ", a " + a, x.put(50, kind, a, 1), right ? 1 : -6);
        due("a of kind " + kind, x.at(50, 1), right ? a : 0);
        due("refusals -6 of kind " + kind + ", a " + a, x.status(16), right ? 0 : 1);
    }

    private static void theNumberB() {
        int[] greatest = {0, 0, 0, 0, 60, 0, 9};
        for (int kind : new int[] {4, 6}) {
            int most = greatest[kind];
            for (int b = -2; b <= 70; b++) {
                bOf(kind, b, b >= 1 && b <= most);
            }
            for (int b : new int[] {LEAST, GREATEST, 256 + 1, 65536 + 1}) {
                bOf(kind, b, false);
            }
        }
    }

    private static void bOf(int kind, int b, boolean right) {
        FallChain x = new FallChain();
        due("put of kind " + kind + ", b " + b, x.put(50, kind, 3, b), right ? 1 : -6);
        due("b of kind " + kind, x.at(50, 2), right ? b : 0);
    }

    private static void whatDoesNotCountIsNotLookedAt() {
        int[] any = {LEAST, -1, 4, 10, 61, GREATEST};
        for (int n : any) {
            FallChain x = new FallChain();
            for (int kind : new int[] {5, 7, 8}) {
                due("kind " + kind + ", a and b " + n, x.put(kind, kind, n, n), 1);
                due("a of kind " + kind + " isn't told of", x.at(kind, 1), 0);
                due("b of kind " + kind + " isn't told of", x.at(kind, 2), 0);
            }
            int[][] withA = {{1, 1}, {2, 3}, {9, 12}};
            for (int[] p : withA) {
                due("kind " + p[0] + ", b " + n, x.put(p[0], p[0], p[1], n), 1);
                due("a of kind " + p[0] + " is told of", x.at(p[0], 1), p[1]);
                due("b of kind " + p[0] + " isn't told of", x.at(p[0], 2), 0);
            }
        }
        FallChain x = new FallChain();
        x.cords(0, 1, 1, 2);
        due("b of a cord isn't told of", x.at(0, 2), 0);
        x.ball(5);
        due("kind of a ball", x.at(5, 0), 0);
        due("a of a ball isn't told of", x.at(5, 1), 0);
        due("b of a ball isn't told of", x.at(5, 2), 0);
        x.put(6, 4, 3, 60);
        x.raze(6);
        x.put(6, 5, 0, 0);
        due("a of what was there ahead", x.at(6, 1), 0);
        due("b of what was there ahead", x.at(6, 2), 0);
    }

    private static void onePieceAndOneBall() {
        int[] as = {0, 1, 2, 0, 3, 0, 1, 0, 0, 6};
        for (int kind : new int[] {1, 2, 4, 5, 6, 7, 8, 9}) {
            FallChain x = new FallChain();
            x.put(50, kind, as[kind], 2);
            due("a second piece on kind " + kind, x.put(50, 1, 0, 0), -6);
            due("the same piece on kind " + kind, x.put(50, kind, as[kind], 2), -6);
            due("a ball on kind " + kind, x.ball(50), kind == 9 ? 1 : -6);
            due("a second ball on kind " + kind, x.ball(50), -6);
            due("the ball there", x.at(50, 3), kind == 9 ? 1 : 0);
            due("the piece there", x.at(50, 0), kind);
            x.ball(51);
            due("kind " + kind + " under a ball", x.put(51, kind, as[kind], 2), kind == 9 ? 1 : -6);
            due("a second piece under a ball", x.put(51, kind, as[kind], 2), -6);
            due("the piece there", x.at(51, 0), kind == 9 ? 9 : 0);
            due("the ball stays", x.at(51, 3), 1);
        }
        FallChain x = new FallChain();
        x.cords(50, 0, 51, 0);
        x.ball(52);
        due("a ball on a cord", x.ball(50), -6);
        due("a ball on the other cord", x.ball(51), -6);
        due("a cord under a ball", x.cords(52, 0, 53, 0), -6);
        due("the other cord under a ball", x.cords(53, 0, 52, 0), -6);
        due("a ball on a ball", x.ball(52), -6);
    }

    private static void cordsBelongTogether() {
        FallChain x = new FallChain();
        due("cells alike", x.cords(7, 0, 7, 1), -6);
        due("one pair", x.cords(7, 0, 8, 1), 1);
        due("another pair", x.cords(9, 0, 6, 1), 1);
        due("two pairs are four pieces", x.status(0), 4);
        due("other of 7", x.at(7, 4), 8);
        due("other of 6", x.at(6, 4), 9);
        due("raze the second of a pair", x.raze(8), 3);
        due("both are gone", x.at(7, 0) + x.at(8, 0), 0);
        due("no side is left", x.at(7, 1) + x.at(8, 1), 0);
        due("no other one", x.at(7, 4), -1);
        due("raze where it was", x.raze(7), 0);
        due("the other pair stays", x.status(0), 2);
        due("raze the first of a pair", x.raze(9), 3);
        due("no piece is left", x.status(0), 0);
        // A timer where a cord was has nothing to do with the other one.
        x.cords(7, 0, 8, 1);
        x.raze(7);
        x.put(7, 4, 0, 1);
        x.put(8, 4, 0, 1);
        due("raze a timer where a cord was", x.raze(7), 4);
        due("the other timer stays", x.at(8, 0), 4);
        due("of a timer no other one", x.at(8, 4), -1);
    }

    private static void razeTellsTheKind() {
        int[] as = {0, 1, 2, 0, 3, 0, 1, 0, 0, 6};
        for (int kind : new int[] {1, 2, 4, 5, 6, 7, 8, 9}) {
            FallChain x = new FallChain();
            x.put(95, kind, as[kind], 2);
            due("raze of kind " + kind, x.raze(95), kind);
            for (int what = 0; what <= 3; what++) {
                due("razed: at(95, " + what + ")", x.at(95, what), 0);
            }
            due("razed again", x.raze(95), 0);
            due("no piece", x.status(0), 0);
        }
        FallChain x = new FallChain();
        x.ball(0);
        x.put(1, 9, 3, 0);
        x.ball(1);
        due("raze of a ball", x.raze(0), 0);
        due("the ball is gone", x.status(1), 1);
        due("raze of a track with a ball", x.raze(1), 9);
        due("both are gone", x.status(0) + x.status(1), 0);
    }

    private static void theWholePlanIsFull() {
        FallChain x = new FallChain();
        for (int cell = 0; cell < 96; cell++) {
            due("track " + cell, x.put(cell, 9, 5, 0), 1);
            due("ball " + cell, x.ball(cell), 1);
        }
        due("96 pieces", x.status(0), 96);
        due("96 balls", x.status(1), 96);
        due("no bells", x.status(3), 0);
        due("keep tells 96", x.keep(0), 96);
        due("load tells 96", x.load(0), 96);
        FallChain y = new FallChain();
        for (int cell = 0; cell < 96; cell++) {
            y.put(cell, 8, 0, 0);
        }
        due("96 bells", y.status(3), 96);
        due("bells are pieces", y.status(0), 96);
        due("nothing to shift", y.fragile(0, -1), -1);
        y.start(0, 0, 0);
        due("nothing to shift, as all are bells", y.fragile(0, -1), 0);
    }

    // ---- starts

    private static void fourStartsAndAFifth() {
        FallChain x = new FallChain();
        due("start 1", x.start(0, 0, 0), 1);
        due("start 2", x.start(95, 3, 99), 2);
        due("start 3", x.start(50, 1, 50), 3);
        due("three", x.status(2), 3);
        due("start 4", x.start(0, 0, 0), 4);
        due("start 5", x.start(1, 1, 1), -7);
        due("start 5 once more", x.start(0, 0, 0), -7);
        due("refusals -7", x.status(17), 2);
        due("four", x.status(2), 4);
        due("run", x.run(), 99);
        due("four strikes", x.ran(2), 4);
        due("noStarts of four", x.noStarts(), 4);
        due("none", x.status(2), 0);
        due("noStarts of none", x.noStarts(), 0);
        due("run of none", x.run(), 0);
        due("no strikes", x.ran(2), 0);
        for (int i = 1; i <= 4; i++) {
            due("start " + i + " again", x.start(i, 0, i), i);
        }
        due("start 5 again", x.start(5, 0, 5), -7);
    }

    private static void theTicksOfStarts() {
        for (int tick = 0; tick <= 99; tick++) {
            FallChain x = new FallChain();
            due("start in tick " + tick, x.start(95, 3, tick), 1);
            due("run to tick " + tick, x.run(), tick);
            due("struck in tick " + tick, x.strike(0, 0), tick);
        }
        for (int tick : new int[] {-1, 100, 399, 400, LEAST, GREATEST}) {
            FallChain x = new FallChain();
            due("start in tick " + tick, x.start(95, 3, tick), -6);
            due("no start", x.status(2), 0);
        }
    }

    private static void startsAreInTheOrderInWhichTheyWereTold() {
        FallChain x = new FallChain();
        int[][] told = {{30, 2, 9}, {10, 1, 9}, {20, 0, 9}, {10, 3, 9}};
        for (int[] s : told) {
            x.start(s[0], s[1], s[2]);
        }
        x.run();
        for (int i = 0; i < 4; i++) {
            due("cell of strike " + i, x.strike(i, 1), told[i][0]);
            due("side of strike " + i, x.strike(i, 2), told[i][1]);
        }
        x.keep(7);
        x.noStarts();
        x.load(7);
        x.run();
        for (int i = 0; i < 4; i++) {
            due("cell of strike " + i + ", loaded", x.strike(i, 1), told[i][0]);
            due("side of strike " + i + ", loaded", x.strike(i, 2), told[i][1]);
        }
    }

    // ---- shelves and rows

    private static void theShelves() {
        FallChain x = new FallChain();
        for (int s = 0; s <= 7; s++) {
            due("at first nothing on " + s, x.holds(s), -1);
            due("row on " + s, x.row(s, 3, 4), 1);
            due("holds longs on " + s, x.holds(s), 103);
            due("set on " + s, x.set(s, 3, 10 + s), 1);
            due("copy on " + s, x.copy(s, s, 3, 0, 1), 1);
            due("copy from " + s + " to the first", x.copy(s, 0, 3, 3, 1), 1);
            due("element of " + s, x.element(s, 0), 10 + s);
            due("tune of " + s, x.tune(s), 0);
        }
        due("each has its own", x.element(7, 0) * 100 + x.element(6, 0), 1716);
        due("the first was copied to", x.element(0, 3), 17);
        for (int s = 0; s <= 7; s++) {
            fill(x, s, 2, s, 8, 0, 0);
            due("puts of " + s, x.puts(s), 1);
            due("keep on " + s, x.keep(s), s + 1);
            due("holds a plan on " + s, x.holds(s), 0);
            due("element of a plan on " + s, x.element(s, 0), 0);
        }
        for (int s = 0; s <= 7; s++) {
            due("load of " + s, x.load(s), s + 1);
        }
        due("no refusals", refusals(x), 0);
    }

    private static void beyondTheShelves() {
        for (int s : NO_SHELVES) {
            FallChain x = new FallChain();
            x.row(0, 0, 1);
            due("row on " + s, x.row(s, 0, 1), -1);
            due("set on " + s, x.set(s, 0, 1), -1);
            due("copy from " + s, x.copy(s, 0, 0, 0, 0), -1);
            due("copy to " + s, x.copy(0, s, 0, 0, 0), -1);
            due("puts of " + s, x.puts(s), -1);
            due("keep on " + s, x.keep(s), -1);
            due("load of " + s, x.load(s), -1);
            due("tune of " + s, x.tune(s), -1);
            due("refusals -1", x.status(11), 8);
            due("holds of " + s, x.holds(s), -1);
            due("element of " + s, x.element(s, 0), 0);
            due("refusals", refusals(x), 8);
        }
    }

    private static void theSorts() {
        for (int sort = 0; sort <= 3; sort++) {
            FallChain x = new FallChain();
            due("row of sort " + sort, x.row(0, sort, 1), 1);
            due("holds sort " + sort, x.holds(0), 100 + sort);
            for (int other = 0; other <= 3; other++) {
                x.row(1, other, 1);
                due("copy of sort " + sort + " to " + other, x.copy(0, 1, 0, 0, 1), sort == other ? 1 : -2);
            }
        }
        for (int sort : new int[] {-1, 4, 100, LEAST, GREATEST}) {
            FallChain x = new FallChain();
            due("row of sort " + sort, x.row(0, sort, 1), -6);
            due("holds nothing", x.holds(0), -1);
        }
    }

    private static void rowsOfNoElement() {
        FallChain x = new FallChain();
        for (int sort = 0; sort <= 3; sort++) {
            due("row of 0 of sort " + sort, x.row(sort, sort, 0), 1);
            due("it is a row", x.holds(sort), 100 + sort);
            due("set 0", x.set(sort, 0, 1), -5);
            due("set -1", x.set(sort, -1, 1), -5);
            due("element 0", x.element(sort, 0), 0);
            due("copy of none", x.copy(sort, sort, 0, 0, 0), 1);
            due("copy of one", x.copy(sort, sort, 0, 0, 1), -5);
            due("copy of none from 1", x.copy(sort, sort, 1, 0, 0), -5);
            due("copy of none to 1", x.copy(sort, sort, 0, 1, 0), -5);
            due("puts of none", x.puts(sort), 0);
            due("tune of none", x.tune(sort), 1000);
        }
        due("no piece", x.status(0), 0);
    }

    private static void rowsOf100Elements() {
        FallChain x = new FallChain();
        due("row of 100", x.row(0, 0, 100), 1);
        for (int i = 0; i < 100; i++) {
            due("0 at first", x.element(0, i), 0);
        }
        for (int i = 0; i < 100; i++) {
            due("set " + i, x.set(0, i, i), 1);
        }
        due("set 100", x.set(0, 100, 1), -5);
        due("set -1", x.set(0, -1, 1), -5);
        for (int i = 0; i < 100; i++) {
            due("element " + i, x.element(0, i), i);
        }
        due("element 100", x.element(0, 100), 0);
        due("element -1", x.element(0, -1), 0);
        x.row(1, 0, 100);
        due("copy of 100", x.copy(0, 1, 0, 0, 100), 1);
        due("first of the copy", x.element(1, 1), 1);
        due("last of the copy", x.element(1, 99), 99);
        due("copy of 101", x.copy(0, 1, 0, 0, 101), -5);
        due("copy of the last", x.copy(0, 1, 99, 0, 1), 1);
        due("copied last", x.element(1, 0), 99);
        due("copy to the last", x.copy(0, 1, 0, 99, 1), 1);
        due("copied to last", x.element(1, 99), 0);
        due("copy of 100 from 1", x.copy(0, 1, 1, 0, 100), -5);
        due("copy of 100 to 1", x.copy(0, 1, 0, 1, 100), -5);
        due("copy of none from 100 to 100", x.copy(0, 1, 100, 100, 0), 1);
        due("copy of none from 101", x.copy(0, 1, 101, 0, 0), -5);
        due("copy of none to 101", x.copy(0, 1, 0, 101, 0), -5);
        due("row of 101", x.row(0, 0, 101), -7);
        due("row of -1", x.row(0, 0, -1), -4);
        due("it is as it was", x.element(0, 99), 99);
        due("a new row in its place", x.row(0, 0, 100), 1);
        due("0 at first once more", x.element(0, 99), 0);
    }

    private static void whatIsPutInKeepsItsLowestBits() {
        int[] bits = {8, 16, 32, 64};
        for (int sort = 0; sort <= 3; sort++) {
            long least = -1L << bits[sort] - 1;
            long greatest = ~least;
            long[] put = {
                0, 1, -1, least, greatest, greatest + 1, least - 1, greatest + 2, 2 * greatest + 1, 2 * greatest + 2, 2 * least - 1,
                Long.MIN_VALUE, Long.MAX_VALUE, 0x8070605040302010L, 0x0102030485868788L,
            };
            FallChain x = new FallChain();
            x.row(0, sort, put.length);
            x.row(1, sort, put.length);
            for (int i = 0; i < put.length; i++) {
                due("set", x.set(0, i, put[i]), 1);
                int shift = 64 - bits[sort];
                due("sort " + sort + ", put in " + put[i], x.element(0, i), put[i] << shift >> shift);
            }
            due("sort " + sort + " keeps its least", x.element(0, 3), least);
            due("sort " + sort + " keeps its greatest", x.element(0, 4), greatest);
            due("sort " + sort + ", one above the greatest", x.element(0, 5), least);
            due("sort " + sort + ", one below the least", x.element(0, 6), greatest);
            x.copy(0, 1, 0, 0, put.length);
            for (int i = 0; i < put.length; i++) {
                due("sort " + sort + ", copied", x.element(1, i), x.element(0, i));
            }
        }
    }

    private static void copiesAreAsTheyWereAhead() {
        for (int i = 0; i <= 6; i++) {
            for (int j = 0; j <= 6; j++) {
                for (int n = 0; n <= 7; n++) {
                    FallChain x = new FallChain();
                    fill(x, 4, 1, 10, 11, 12, 13, 14, 15);
                    boolean there = i + n <= 6 && j + n <= 6;
                    String call = "copy(4, 4, " + i + ", " + j + ", " + n + ")";
                    due(call, x.copy(4, 4, i, j, n), there ? 1 : -5);
                    for (int k = 0; k < 6; k++) {
                        boolean copied = there && k >= j && k < j + n;
                        due(call + ", element " + k, x.element(4, k), copied ? 10 + k - j + i : 10 + k);
                    }
                }
            }
        }
    }

    private static void copiesBetweenRowsOfTwoSizes() {
        FallChain x = new FallChain();
        fill(x, 0, 2, 1, 2, 3, 4, 5);
        fill(x, 7, 2, 6, 7, 8);
        due("three to the front", x.copy(0, 7, 2, 0, 3), 1);
        due("the row copied from stays", x.element(0, 2), 3);
        due("the last one copied", x.element(7, 2), 5);
        due("three from the shorter one", x.copy(7, 0, 0, 2, 3), 1);
        due("four from the shorter one", x.copy(7, 0, 0, 0, 4), -5);
        due("four to the shorter one", x.copy(0, 7, 0, 0, 4), -5);
        due("three to the shorter one's second", x.copy(0, 7, 0, 1, 3), -5);
        due("two to the shorter one's second", x.copy(0, 7, 0, 1, 2), 1);
        due("its first stays", x.element(7, 0), 3);
        due("its last", x.element(7, 2), 2);
    }

    private static void elementsArePutAsInts() {
        FallChain x = new FallChain();
        long high = 1L << 32;
        fill(x, 0, 3, 5 * high + 40, high + 4, -high + 3, Long.MIN_VALUE + 60, 41 - high, 10, 99, -99);
        due("puts of longs", x.puts(0), 2);
        due("kind", x.at(40, 0), 4);
        due("a", x.at(40, 1), 3);
        due("b", x.at(40, 2), 60);
        due("ball", x.at(41, 3), 1);
        int[][] timers = {{50, 0, 1, 1}, {51, 0, 60, 1}, {52, 3, 0, -6}, {53, 3, 61, -6}, {54, 4, 4, -6}, {55, -1, 5, -6}};
        for (int[] t : timers) {
            fill(x, 1, 0, t[0], 4, t[1], t[2]);
            due("a timer on " + t[0], x.puts(1), t[3]);
            due("its b", x.at(t[0], 2), t[3] == 1 ? t[2] : 0);
        }
        fill(x, 1, 0, -1, 8, 0, 0);
        due("cell -1 of bytes", x.puts(1), -6);
        fill(x, 1, 0, 127, 8, 0, 0);
        due("cell 127 of bytes", x.puts(1), -6);
        fill(x, 1, 0, 95, 8, -128, 127);
        due("cell 95 of bytes", x.puts(1), 1);
        fill(x, 1, 3, high / 2 + 42, 8, 0, 0);
        due("bit 31 counts", x.puts(1), -6);
    }

    private static void asManyPiecesAsARowCanHold() {
        FallChain x = new FallChain();
        due("row", x.row(0, 0, 100), 1);
        for (int k = 0; k < 25; k++) {
            x.set(0, 4 * k, 2 * k);
            x.set(0, 4 * k + 1, k % 2 == 0 ? 8 : 10);
        }
        x.set(0, 97, 3);
        due("a cord at the end", x.puts(0), -6);
        due("nothing was put", x.status(0) + x.status(1), 0);
        x.set(0, 97, 8);
        due("25 at once", x.puts(0), 25);
        due("pieces", x.status(0), 13);
        due("balls", x.status(1), 12);
        due("the last one", x.at(48, 0), 8);
        due("once more", x.puts(0), -6);
        for (int n = 1; n <= 8; n++) {
            x.row(1, 0, n);
            for (int i = 0; i < n; i++) {
                x.set(1, i, i % 4 == 0 ? 90 + i / 4 : i % 4 == 1 ? 8 : 0);
            }
            due("puts of " + n + " elements", x.puts(1), n == 4 ? 1 : n == 8 ? 2 : -6);
            x.raze(90);
        }
    }

    private static void aTrackAndABallInOneRow() {
        FallChain x = new FallChain();
        fill(x, 0, 1, 3, 10, 0, 0, 3, 9, 12, 0);
        due("a ball, then the track under it", x.puts(0), 2);
        fill(x, 1, 1, 4, 9, 12, 0, 4, 10, 0, 0);
        due("a track, then the ball on it", x.puts(1), 2);
        due("both are there", x.at(3, 0) * 1000 + x.at(3, 3) * 100 + x.at(4, 0) * 10 + x.at(4, 3), 9191);
    }

    private static void plansAreKeptAsTheyWere() {
        FallChain x = new FallChain();
        due("keep an empty plan", x.keep(0), 0);
        due("an empty plan is a plan", x.holds(0), 0);
        x.put(0, 4, 3, 60);
        x.cords(1, 3, 95, 0);
        x.put(2, 9, 12, 0);
        x.ball(2);
        x.ball(94);
        x.start(0, 0, 99);
        x.start(2, 0, 98);
        due("keep counts pieces, no balls", x.keep(7), 4);
        due("load the empty plan", x.load(0), 0);
        for (int what = 0; what <= 3; what++) {
            due("empty: status(" + what + ")", x.status(what), 0);
        }
        due("empty: run", x.run(), 0);
        due("load the other plan", x.load(7), 4);
        due("a", x.at(0, 1), 3);
        due("b", x.at(0, 2), 60);
        due("the first cord's other", x.at(1, 4), 95);
        due("the other cord's other", x.at(95, 4), 1);
        due("the track's ball", x.at(2, 3), 1);
        due("the ball", x.at(94, 3), 1);
        due("starts", x.status(2), 2);
        x.raze(95);
        x.raze(2);
        x.noStarts();
        x.start(0, 0, 5);
        due("the shelf keeps it", x.load(7), 4);
        due("its starts, too", x.status(2), 2);
        due("its cords, too", x.at(1, 4), 95);
        due("the ball rolls down behind the start in tick 98", x.run(), 104);
        x.put(50, 8, 0, 0);
        due("what is put later", x.status(0), 5);
        due("isn't kept", x.load(7), 4);
        due("the run stays as it was", x.ran(1), 104);
        x.row(7, 3, 100);
        due("a row in the place of a plan", x.load(7), -2);
        due("it holds longs", x.holds(7), 103);
        due("of 0", x.element(7, 99), 0);
        due("a plan in the place of a row", x.keep(7), 4);
        due("it holds a plan", x.holds(7), 0);
        due("of no elements", x.set(7, 0, 1), -2);
    }

    // ---- the counts

    private static void theStatusOfEach() {
        FallChain x = new FallChain();
        for (int what : new int[] {-1, 5, 6, 7, 8, 9, 10, 18, 19, 20, -10, -17, LEAST, LEAST + 10, GREATEST}) {
            due("status(" + what + ")", x.status(what), -1);
        }
        for (int k = 1; k <= 3; k++) {
            x.run();
            due("run() calls", x.status(4), k);
        }
        x.raze(-1);
        x.row(0, 0, 0);
        x.load(0);
        x.load(1);
        x.row(0, 0, -1);
        x.set(0, 0, 0);
        x.put(0, 0, 0, 0);
        x.row(0, 0, 101);
        for (int what = 11; what <= 17; what++) {
            due("status(" + what + ")", x.status(what), 1);
        }
        for (int k = 0; k < 300; k++) {
            x.ball(96);
        }
        due("301 refusals", x.status(11), 301);
    }

    private static void whatIsAskedOfTheStatesOfACell() {
        FallChain x = new FallChain();
        x.put(50, 4, 3, 60);
        int[] due = {4, 3, 60, 0, -1};
        for (int what = 0; what <= 4; what++) {
            due("at(50, " + what + ")", x.at(50, what), due[what]);
        }
        for (int what : new int[] {-1, 5, 6, LEAST, GREATEST}) {
            due("at(50, " + what + ")", x.at(50, what), -1);
        }
        x.run();
        int[] ended = {-1, 0, 0, 0, 0};
        for (int what = 0; what <= 4; what++) {
            due("ended(50, " + what + ")", x.ended(50, what), ended[what]);
        }
        for (int what : new int[] {-1, 5, 6, LEAST, GREATEST}) {
            due("ended(50, " + what + ")", x.ended(50, what), -1);
        }
    }

    /** "An object is used for at most 512 calls": the last of them answers as the first. */
    private static void the512thCall() {
        FallChain x = new FallChain();
        due("the first call", x.put(0, 8, 0, 0), 1);
        x.start(0, 0, 0);
        for (int call = 3; call <= 509; call++) {
            due("row in call " + call, x.row(call % 8, 3, 100), 1);
        }
        due("run in call 510", x.run(), 0);
        due("ring in call 511", x.ended(0, 1), 1);
        due("refusal in call 512", x.raze(96), -1);
        FallChain y = new FallChain();
        y.start(0, 0, 0);
        for (int call = 2; call <= 511; call++) {
            due("run in call " + call, y.run(), 0);
        }
        due("run() calls, asked in call 512", y.status(4), 510);
    }

    public static void main(String[] args) {
        aNewObjectIsEmpty();
        nothingOfARunThatWasNot();
        theFirstAndTheLastCell();
        beyondTheCells();
        theSides();
        theKinds();
        theNumberA();
        theNumberB();
        whatDoesNotCountIsNotLookedAt();
        onePieceAndOneBall();
        cordsBelongTogether();
        razeTellsTheKind();
        theWholePlanIsFull();
        fourStartsAndAFifth();
        theTicksOfStarts();
        startsAreInTheOrderInWhichTheyWereTold();
        theShelves();
        beyondTheShelves();
        theSorts();
        rowsOfNoElement();
        rowsOf100Elements();
        whatIsPutInKeepsItsLowestBits();
        copiesAreAsTheyWereAhead();
        copiesBetweenRowsOfTwoSizes();
        elementsArePutAsInts();
        asManyPiecesAsARowCanHold();
        aTrackAndABallInOneRow();
        plansAreKeptAsTheyWere();
        theStatusOfEach();
        whatIsAskedOfTheStatesOfACell();
        the512thCall();
        System.out.println(wrong == 0 ? "all answers are as due" : wrong + " answers are not as due");
        if (wrong != 0) {
            System.exit(1);
        }
    }
}
