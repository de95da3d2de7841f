/** Promises 1 to 16 and 30: the plan, the shelves, the refusals. */
public final class PlanPromises {
    private static int wrong = 0;

    private static void due(String what, long got, long want) {
        if (got != want) {
            wrong++;
            System.out.println(what + " answered " + got + ", due is " + want);
        }
    }

    private static void refusals(String when, FallChain x, int... counts) {
        for (int i = 0; i < 7; i++) {
            due(when + ": status(" + (11 + i) + ")", x.status(11 + i), counts[i]);
        }
    }

    private static void fill(FallChain x, int s, int sort, long... values) {
        due("row", x.row(s, sort, values.length), 1);
        for (int i = 0; i < values.length; i++) {
            due("set", x.set(s, i, values[i]), 1);
        }
    }

    private static void aNewObject() {
        FallChain x = new FallChain();
        for (int cell = 0; cell < 96; cell++) {
            for (int what = 0; what < 4; what++) {
                due("new: at(" + cell + ", " + what + ")", x.at(cell, what), 0);
            }
            due("new: at(" + cell + ", 4)", x.at(cell, 4), -1);
        }
        for (int s = 0; s < 8; s++) {
            due("new: holds(" + s + ")", x.holds(s), -1);
        }
        for (int what = 0; what <= 4; what++) {
            due("new: status(" + what + ")", x.status(what), 0);
        }
        refusals("new", x, 0, 0, 0, 0, 0, 0, 0);
    }

    private static void putTakesEachKind() {
        int[][] right = {
            {1, 0, 0}, {1, 1, 0}, {2, 0, 0}, {2, 3, 0}, {4, 0, 1}, {4, 3, 60}, {5, 0, 0}, {6, 0, 1}, {6, 3, 9},
            {7, 0, 0}, {8, 0, 0}, {9, 3, 0}, {9, 5, 0}, {9, 6, 0}, {9, 9, 0}, {9, 10, 0}, {9, 12, 0},
        };
        FallChain x = new FallChain();
        for (int i = 0; i < right.length; i++) {
            int[] p = right[i];
            due("put of kind " + p[0], x.put(i, p[0], p[1], p[2]), 1);
            due("at kind", x.at(i, 0), p[0]);
            due("at a of kind " + p[0], x.at(i, 1), p[1]);
            due("at b of kind " + p[0], x.at(i, 2), p[2]);
            due("at other of kind " + p[0], x.at(i, 4), -1);
        }
        due("put on the last cell", x.put(95, 8, 0, 0), 1);
        due("pieces", x.status(0), right.length + 1);
        due("bells", x.status(3), 2);
        refusals("put", x, 0, 0, 0, 0, 0, 0, 0);
    }

    private static void putHeedsOnlyTheNumbersThatCount() {
        int[][] loose = {
            {1, 1, -7, 1, 0}, {2, 2, 99, 2, 0}, {5, -3, 77, 0, 0}, {7, 40, -1, 0, 0}, {8, 9, 9, 0, 0}, {9, 12, 500, 12, 0},
        };
        FallChain x = new FallChain();
        for (int i = 0; i < loose.length; i++) {
            int[] p = loose[i];
            due("loose put of kind " + p[0], x.put(i, p[0], p[1], p[2]), 1);
            due("a that does not count, kind " + p[0], x.at(i, 1), p[3]);
            due("b that does not count, kind " + p[0], x.at(i, 2), p[4]);
        }
    }

    private static void putRefuses() {
        FallChain x = new FallChain();
        x.put(10, 1, 0, 0);
        x.ball(11);
        x.put(12, 9, 3, 0);
        x.ball(12);
        int[][] calls = {
            {-1, 1, 0, 0, -1}, {96, 1, 0, 0, -1}, {Integer.MIN_VALUE, 0, 0, 0, -1}, {Integer.MAX_VALUE, 1, 0, 0, -1},
            {0, 0, 0, 0, -6}, {0, 3, 0, 0, -6}, {0, 10, 0, 0, -6}, {0, -1, 0, 0, -6}, {0, Integer.MAX_VALUE, 0, 0, -6},
            {0, 1, 2, 0, -6}, {0, 1, -1, 0, -6}, {0, 2, 4, 0, -6}, {0, 2, -1, 0, -6}, {0, 4, 4, 5, -6}, {0, 4, 0, 0, -6},
            {0, 4, 0, 61, -6}, {0, 6, -1, 1, -6}, {0, 6, 0, 0, -6}, {0, 6, 0, 10, -6}, {0, 9, 0, 0, -6}, {0, 9, 1, 0, -6},
            {0, 9, 7, 0, -6}, {0, 9, 8, 0, -6}, {0, 9, 15, 0, -6}, {0, 9, 17, 0, -6}, {0, 9, -1, 0, -6}, {0, 9, 24, 0, -6},
            {10, 1, 0, 0, -6}, {10, 9, 3, 0, -6}, {11, 1, 0, 0, -6}, {11, 8, 0, 0, -6}, {12, 9, 3, 0, -6}, {12, 7, 0, 0, -6},
        };
        for (int[] c : calls) {
            due("put(" + c[0] + ", " + c[1] + ", " + c[2] + ", " + c[3] + ")", x.put(c[0], c[1], c[2], c[3]), c[4]);
        }
        refusals("put", x, 4, 0, 0, 0, 0, calls.length - 4, 0);
        due("no piece more", x.status(0), 2);
        due("a track under a ball", x.put(11, 9, 3, 0), 1);
        due("the ball is still there", x.at(11, 3), 1);
        due("the track is there", x.at(11, 0), 9);
    }

    private static void cordsAreTied() {
        FallChain x = new FallChain();
        due("cords", x.cords(0, 0, 95, 3), 1);
        due("kind of one", x.at(0, 0), 3);
        due("kind of the other", x.at(95, 0), 3);
        due("side of one", x.at(0, 1), 0);
        due("side of the other", x.at(95, 1), 3);
        due("b of one", x.at(0, 2), 0);
        due("other of one", x.at(0, 4), 95);
        due("other of the other", x.at(95, 4), 0);
        due("two pieces", x.status(0), 2);
        x.put(1, 8, 0, 0);
        x.ball(2);
        due("cord off the plan", x.cords(96, 0, 5, 0), -1);
        due("other cord off the plan", x.cords(5, 9, -1, 0), -1);
        due("side 4", x.cords(5, 4, 6, 0), -6);
        due("other side -1", x.cords(5, 0, 6, -1), -6);
        due("cells alike", x.cords(5, 0, 5, 1), -6);
        due("on a piece", x.cords(5, 0, 1, 0), -6);
        due("on a cord", x.cords(0, 0, 5, 0), -6);
        due("on a ball", x.cords(2, 0, 5, 0), -6);
        refusals("cords", x, 2, 0, 0, 0, 0, 6, 0);
        due("no piece more", x.status(0), 3);
    }

    private static void ballsLie() {
        FallChain x = new FallChain();
        x.put(5, 9, 6, 0);
        x.put(6, 7, 0, 0);
        x.put(7, 1, 0, 0);
        due("ball on the plain", x.ball(0), 1);
        due("ball on the last cell", x.ball(95), 1);
        due("ball on a track", x.ball(5), 1);
        due("at ball", x.at(0, 3), 1);
        due("at ball on a track", x.at(5, 3), 1);
        due("at no ball", x.at(1, 3), 0);
        due("the track stays", x.at(5, 0), 9);
        due("balls", x.status(1), 3);
        due("a ball is no piece", x.status(0), 3);
        due("ball off the plan", x.ball(96), -1);
        due("ball at -1", x.ball(-1), -1);
        due("ball on a ball", x.ball(0), -6);
        due("second ball on a track", x.ball(5), -6);
        due("ball on a gate", x.ball(6), -6);
        due("ball on a domino", x.ball(7), -6);
        due("still as many balls", x.status(1), 3);
        refusals("ball", x, 2, 0, 0, 0, 0, 4, 0);
    }

    private static void razeClears() {
        FallChain x = new FallChain();
        x.put(3, 4, 1, 7);
        x.ball(4);
        x.put(5, 9, 3, 0);
        x.ball(5);
        x.cords(6, 0, 60, 1);
        x.cords(7, 0, 61, 1);
        due("raze a timer", x.raze(3), 4);
        due("its a is gone", x.at(3, 1), 0);
        due("its b is gone", x.at(3, 2), 0);
        due("raze a ball", x.raze(4), 0);
        due("the ball is gone", x.at(4, 3), 0);
        due("raze a track and its ball", x.raze(5), 9);
        due("track gone", x.at(5, 0), 0);
        due("ball of the track gone", x.at(5, 3), 0);
        due("raze a cord", x.raze(60), 3);
        due("the other cord is gone", x.at(6, 0), 0);
        due("another pair stays", x.at(7, 4), 61);
        due("two pieces left", x.status(0), 2);
        due("raze nothing", x.raze(50), 0);
        due("raze off the plan", x.raze(96), -1);
        due("raze at -1", x.raze(-1), -1);
        due("the cell takes a piece again", x.put(6, 8, 0, 0), 1);
        refusals("raze", x, 2, 0, 0, 0, 0, 0, 0);
    }

    private static void startsAreCounted() {
        FallChain x = new FallChain();
        due("no starts", x.noStarts(), 0);
        due("start off the plan", x.start(96, 9, 0), -1);
        due("start at -1", x.start(-1, 0, 0), -1);
        due("side 4", x.start(0, 4, 0), -6);
        due("side -1", x.start(0, -1, 0), -6);
        due("tick -1", x.start(0, 0, -1), -6);
        due("tick 100", x.start(0, 0, 100), -6);
        due("first", x.start(0, 0, 0), 1);
        due("second", x.start(95, 3, 99), 2);
        due("third, like the first", x.start(0, 0, 0), 3);
        due("fourth", x.start(50, 1, 1), 4);
        due("fifth", x.start(50, 1, 1), -7);
        due("a wrong fifth", x.start(50, 4, 1), -6);
        due("a fifth off the plan", x.start(-5, 4, 1), -1);
        due("starts", x.status(2), 4);
        refusals("start", x, 3, 0, 0, 0, 0, 5, 1);
        due("noStarts", x.noStarts(), 4);
        due("none left", x.status(2), 0);
        due("a start again", x.start(0, 0, 5), 1);
        due("run of that start", x.run(), 5);
    }

    private static void rowsAreMade() {
        FallChain x = new FallChain();
        due("row of bytes", x.row(0, 0, 0), 1);
        due("row of longs", x.row(7, 3, 100), 1);
        due("holds bytes", x.holds(0), 100);
        due("holds longs", x.holds(7), 103);
        due("elements at first", x.element(7, 99), 0);
        x.set(7, 99, 5);
        due("row anew", x.row(7, 2, 100), 1);
        due("elements at first again", x.element(7, 99), 0);
        due("shelf 8", x.row(8, 9, -1), -1);
        due("shelf -1", x.row(-1, 0, 1), -1);
        due("size below 0", x.row(0, 9, -1), -4);
        due("sort 4", x.row(0, 4, 101), -6);
        due("sort -1", x.row(0, -1, 1), -6);
        due("too many", x.row(0, 3, 101), -7);
        due("refused rows change nothing", x.holds(0), 100);
        refusals("row", x, 2, 0, 0, 1, 0, 2, 1);
        x.keep(1);
        due("row in place of a plan", x.row(1, 1, 1), 1);
        due("holds shorts", x.holds(1), 101);
        due("no plan any more", x.load(1), -2);
    }

    private static void setKeepsLowestBits() {
        FallChain x = new FallChain();
        long v = 0x1234_5678_9abc_def0L;
        long[][] kept = {{-16, -128, -1}, {(short) 0xdef0, 128, 255}, {(int) 0x9abcdef0L, 128, 255}, {v, 128, 255}};
        for (int sort = 0; sort < 4; sort++) {
            fill(x, sort, sort, v, 128, 255);
            for (int i = 0; i < 3; i++) {
                due("sort " + sort + " element " + i, x.element(sort, i), kept[sort][i]);
            }
        }
        x.set(1, 0, 32768);
        due("short wraps", x.element(1, 0), -32768);
        x.set(2, 0, 2147483648L);
        due("int wraps", x.element(2, 0), -2147483648L);
        x.set(3, 0, Long.MIN_VALUE);
        due("long is whole", x.element(3, 0), Long.MIN_VALUE);
        x.keep(6);
        due("set on shelf 8", x.set(8, 0, 1), -1);
        due("set on shelf -1", x.set(-1, 0, 1), -1);
        due("set in a plan", x.set(6, 0, 1), -2);
        due("set in nothing", x.set(7, 0, 1), -3);
        due("set beyond", x.set(0, 3, 1), -5);
        due("set below", x.set(0, -1, 1), -5);
        due("set far beyond", x.set(0, Integer.MAX_VALUE, 1), -5);
        refusals("set", x, 2, 1, 1, 0, 3, 0, 0);
    }

    private static void copyMovesElements() {
        FallChain x = new FallChain();
        fill(x, 0, 2, 1, 2, 3, 4, 5);
        fill(x, 1, 2, 10, 20, 30);
        due("copy", x.copy(0, 1, 3, 1, 2), 1);
        due("copied 0", x.element(1, 0), 10);
        due("copied 1", x.element(1, 1), 4);
        due("copied 2", x.element(1, 2), 5);
        due("copy up in one row", x.copy(0, 0, 0, 1, 4), 1);
        long[] up = {1, 1, 2, 3, 4};
        for (int i = 0; i < 5; i++) {
            due("as they were ahead, up, " + i, x.element(0, i), up[i]);
        }
        due("copy down in one row", x.copy(0, 0, 2, 1, 3), 1);
        long[] down = {1, 2, 3, 4, 4};
        for (int i = 0; i < 5; i++) {
            due("as they were ahead, down, " + i, x.element(0, i), down[i]);
        }
        due("none at the end", x.copy(0, 1, 5, 3, 0), 1);
        due("copy of all", x.copy(1, 0, 0, 0, 3), 1);
        refusals("copy", x, 0, 0, 0, 0, 0, 0, 0);
    }

    private static void copyRefuses() {
        FallChain x = new FallChain();
        x.row(0, 2, 5);
        x.row(1, 2, 3);
        x.row(2, 1, 5);
        x.keep(3);
        int[][] calls = {
            {8, 0, 0, 0, -1, -1}, {0, -1, 9, 9, 9, -1}, {3, 8, 0, 0, 1, -1}, {3, 0, 0, 0, -1, -2}, {0, 3, 0, 0, 1, -2},
            {3, 4, 0, 0, 1, -2}, {4, 3, 0, 0, 1, -2}, {0, 2, 0, 0, -1, -2}, {4, 0, 0, 0, -1, -3}, {0, 4, 0, 0, 1, -3},
            {4, 5, 0, 0, 1, -3}, {0, 1, -1, 0, -1, -4}, {0, 1, 0, 0, Integer.MIN_VALUE, -4}, {0, 1, -1, 0, 1, -5},
            {0, 1, 0, -1, 1, -5}, {0, 1, 5, 0, 1, -5}, {0, 1, 0, 3, 1, -5}, {0, 1, 0, 0, 4, -5}, {1, 0, 1, 0, 3, -5},
            {0, 1, 6, 0, 0, -5}, {0, 1, 0, 4, 0, -5}, {0, 1, Integer.MAX_VALUE, 0, 1, -5},
            {0, 1, 1, 1, Integer.MAX_VALUE, -5}, {0, 1, 0, Integer.MIN_VALUE, 0, -5},
        };
        for (int[] c : calls) {
            String call = "copy(" + c[0] + ", " + c[1] + ", " + c[2] + ", " + c[3] + ", " + c[4] + ")";
            due(call, x.copy(c[0], c[1], c[2], c[3], c[4]), c[5]);
        }
        refusals("copy", x, 3, 5, 3, 2, 11, 0, 0);
    }

    private static void elementAndHoldsRefuseNothing() {
        FallChain x = new FallChain();
        fill(x, 0, 1, 7, -8);
        x.keep(1);
        due("element", x.element(0, 1), -8);
        due("element beyond", x.element(0, 2), 0);
        due("element below", x.element(0, -1), 0);
        due("element of a plan", x.element(1, 0), 0);
        due("element of nothing", x.element(2, 0), 0);
        due("element of no shelf", x.element(8, 0), 0);
        due("element of shelf -1", x.element(-1, 0), 0);
        due("holds a row", x.holds(0), 101);
        due("holds a plan", x.holds(1), 0);
        due("holds nothing", x.holds(2), -1);
        due("no shelf 8", x.holds(8), -1);
        due("no shelf -1", x.holds(-1), -1);
        refusals("element and holds", x, 0, 0, 0, 0, 0, 0, 0);
    }

    private static void putsAreAllOrNone() {
        FallChain x = new FallChain();
        fill(x, 0, 3, 4294967296L + 5, 8, -1, -1, 6, 10, 99, 99, 6, 9, 5, 3, 7, 6, 2, 8);
        due("puts", x.puts(0), 4);
        due("bell of the lowest 32 bits", x.at(5, 0), 8);
        due("ball", x.at(6, 3), 1);
        due("track under the ball", x.at(6, 1), 5);
        due("bucket a", x.at(7, 1), 2);
        due("bucket b", x.at(7, 2), 8);
        due("pieces", x.status(0), 3);
        due("once more", x.puts(0), -6);
        fill(x, 1, 0, 20, 1, 0, 0, 21, 1, 2, 0);
        due("the second would be refused", x.puts(1), -6);
        due("none is put", x.at(20, 0), 0);
        fill(x, 1, 0, 20, 1, 0, 0, 20, 8, 0, 0);
        due("two on one cell", x.puts(1), -6);
        fill(x, 1, 0, 20, 3, 0, 0);
        due("a cord", x.puts(1), -6);
        fill(x, 1, 0, 96, 1, 0, 0);
        due("a cell off the plan", x.puts(1), -6);
        fill(x, 1, 0, 20, 11, 0, 0);
        due("kind 11", x.puts(1), -6);
        fill(x, 1, 0, 20, 1, 0);
        due("no multiple of 4", x.puts(1), -6);
        x.row(1, 2, 0);
        due("an empty row", x.puts(1), 0);
        x.keep(2);
        due("shelf 8", x.puts(8), -1);
        due("shelf -1", x.puts(-1), -1);
        due("a plan", x.puts(2), -2);
        due("nothing", x.puts(3), -3);
        refusals("puts", x, 2, 1, 1, 0, 0, 7, 0);
        due("pieces at last", x.status(0), 3);
    }

    private static void plansAreKeptAndLoaded() {
        FallChain x = new FallChain();
        x.cords(1, 0, 2, 3);
        x.put(3, 9, 12, 0);
        x.ball(3);
        x.put(4, 4, 2, 30);
        x.start(1, 2, 40);
        x.start(3, 0, 50);
        due("keep", x.keep(0), 4);
        due("holds a plan", x.holds(0), 0);
        x.raze(1);
        x.raze(3);
        x.raze(4);
        x.noStarts();
        x.ball(90);
        due("keep a plan without pieces", x.keep(1), 0);
        due("load", x.load(0), 4);
        x.row(1, 0, 0);
        due("one end of the cords", x.at(1, 4), 2);
        due("other end of the cords", x.at(2, 4), 1);
        due("timer", x.at(4, 2), 30);
        due("no ball of the other plan", x.at(90, 3), 0);
        due("starts", x.status(2), 2);
        due("run of the loaded starts, with six steps of the ball", x.run(), 56);
        x.raze(4);
        due("the shelf keeps it", x.load(0), 4);
        due("the timer is there again", x.at(4, 0), 4);
        x.keep(0);
        x.put(50, 8, 0, 0);
        due("keep in place of a plan", x.keep(0), 5);
        x.raze(50);
        due("load the later one", x.load(0), 5);
        due("keep in place of a row", x.keep(1), 5);
        due("the row is gone", x.holds(1), 0);
        due("a plan takes no element", x.set(1, 0, 1), -2);
        due("load in place of a row", x.load(1), 5);
        x.row(2, 0, 0);
        due("keep on shelf 8", x.keep(8), -1);
        due("keep on shelf -1", x.keep(-1), -1);
        due("load of shelf 8", x.load(8), -1);
        due("load of shelf -1", x.load(-1), -1);
        due("load of a row", x.load(2), -2);
        due("load of nothing", x.load(3), -3);
        refusals("keep and load", x, 4, 2, 1, 0, 0, 0, 0);
    }

    private static void firstAndLastCellAreKept() {
        FallChain x = new FallChain();
        x.put(0, 8, 0, 0);
        x.put(95, 8, 0, 0);
        due("two bells", x.status(3), 2);
        x.keep(0);
        x.raze(0);
        x.raze(95);
        due("no bell", x.status(3), 0);
        x.ball(0);
        x.ball(95);
        due("two balls", x.status(1), 2);
        due("load", x.load(0), 2);
        due("the first cell", x.at(0, 0) * 10 + x.at(0, 3), 80);
        due("the last cell", x.at(95, 0) * 10 + x.at(95, 3), 80);
        due("no ball", x.status(1), 0);
    }

    private static void atAndStatusTellNone() {
        FallChain x = new FallChain();
        x.put(0, 6, 2, 3);
        due("at of no cell", x.at(96, 0), -1);
        due("at of cell -1", x.at(-1, 0), -1);
        due("at of another what", x.at(0, 5), -1);
        due("at of what -1", x.at(0, -1), -1);
        due("kind", x.at(0, 0), 6);
        due("a", x.at(0, 1), 2);
        due("b", x.at(0, 2), 3);
        due("no ball", x.at(0, 3), 0);
        due("no other one", x.at(0, 4), -1);
        int[] none = {-1, 5, 6, 9, 10, 18, Integer.MIN_VALUE, Integer.MAX_VALUE};
        for (int what : none) {
            due("status(" + what + ")", x.status(what), -1);
        }
        due("no run yet", x.status(4), 0);
        x.run();
        x.run();
        x.met(0, -1);
        due("two runs", x.status(4), 2);
        refusals("at and status", x, 0, 0, 0, 0, 0, 0, 0);
    }

    public static void main(String[] args) {
        aNewObject();
        putTakesEachKind();
        putHeedsOnlyTheNumbersThatCount();
        putRefuses();
        cordsAreTied();
        ballsLie();
        razeClears();
        startsAreCounted();
        rowsAreMade();
        setKeepsLowestBits();
        copyMovesElements();
        copyRefuses();
        elementAndHoldsRefuseNothing();
        putsAreAllOrNone();
        plansAreKeptAndLoaded();
        firstAndLastCellAreKept();
        atAndStatusTellNone();
        System.out.println(wrong == 0 ? "all answers are as due" : wrong + " answers are not as due");
        if (wrong != 0) {
            System.exit(1);
        }
    }
}
