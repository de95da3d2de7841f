import java.util.ArrayList;
import java.util.List;
import java.util.Map;
import java.util.Random;
import java.util.TreeMap;
import java.util.TreeSet;

/** Long mixed runs of calls, held against a slow model that was written from the document alone. */
public final class ModelRuns {
    private static final int MOST_CALLS = 512;
    private static final int[] DX = {0, 1, 0, -1};
    private static final int[] DY = {-1, 0, 1, 0};

    private static int wrong = 0;
    private static final int[] seen = new int[12];

    /** What a refused call answers. */
    private static final class Refused extends RuntimeException {
        private static final long serialVersionUID = 1;
        final int number;

        Refused(int number) {
            super(null, null, false, false);
            this.number = number;
        }
    }

    private static void refuseIf(boolean condition, int number) {
        if (condition) {
            throw new Refused(number);
        }
    }

    private static int next(int cell, int side) {
        int x = cell % 12 + DX[side];
        int y = cell / 12 + DY[side];
        return x < 0 || x > 11 || y < 0 || y > 7 ? -1 : 12 * y + x;
    }

    private static int far(int side) {
        return side < 2 ? side + 2 : side - 2;
    }

    private static final class Piece {
        final int kind;
        final int a;
        final int b;
        final int other;

        Piece(int kind, int a, int b, int other) {
            this.kind = kind;
            this.a = a;
            this.b = b;
            this.other = other;
        }
    }

    private static final class Plan {
        final TreeMap<Integer, Piece> pieces = new TreeMap<>();
        final TreeSet<Integer> balls = new TreeSet<>();
        final List<int[]> starts = new ArrayList<>();

        Plan copy() {
            Plan p = new Plan();
            p.pieces.putAll(pieces);
            p.balls.addAll(balls);
            p.starts.addAll(starts);
            return p;
        }

        boolean empty(int cell) {
            return !pieces.containsKey(cell) && !balls.contains(cell);
        }

        boolean isBell(int cell) {
            return pieces.containsKey(cell) && pieces.get(cell).kind == 8;
        }

        Plan with(int cell, int kind, int a, int b) {
            Plan p = copy();
            p.pieces.put(cell, new Piece(kind, a, b, -1));
            return p;
        }

        void put(int cell, int kind, int a, int b) {
            refuseIf(cell < 0 || cell > 95, -1);
            boolean rightA;
            boolean rightB = true;
            switch (kind) {
                case 1: rightA = a == 0 || a == 1; break;
                case 4: rightA = a >= 0 && a <= 3; rightB = b >= 1 && b <= 60; break;
                case 6: rightA = a >= 0 && a <= 3; rightB = b >= 1 && b <= 9; break;
                case 2: rightA = a >= 0 && a <= 3; break;
                case 5: case 7: case 8: rightA = true; break;
                case 9: rightA = a == 3 || a == 5 || a == 9 || a == 6 || a == 10 || a == 12; break;
                default: rightA = false; break;
            }
            refuseIf(!rightA || !rightB, -6);
            refuseIf(pieces.containsKey(cell), -6);
            refuseIf(balls.contains(cell) && kind != 9, -6);
            boolean hasA = kind == 1 || kind == 2 || kind == 4 || kind == 6 || kind == 9;
            pieces.put(cell, new Piece(kind, hasA ? a : 0, kind == 4 || kind == 6 ? b : 0, -1));
        }

        void ball(int cell) {
            refuseIf(cell < 0 || cell > 95, -1);
            refuseIf(balls.contains(cell) || pieces.containsKey(cell) && pieces.get(cell).kind != 9, -6);
            balls.add(cell);
        }
    }

    private static final class Strike {
        int tick;
        int cell;
        int side;
        Strike cause;
        boolean leaps;
        boolean byBall;
        boolean lost;
        int number = -1;
    }

    private static final class Ball {
        int cell;
        int way = -1;
        int steps;
        Strike cause;
        boolean gone;
    }

    private static final class Run {
        final Plan plan;
        final List<Strike> set = new ArrayList<>();
        final List<Strike> done = new ArrayList<>();
        final List<Ball> balls = new ArrayList<>();
        final List<Strike> rings = new ArrayList<>();
        final Map<Integer, Integer> struck = new TreeMap<>();
        final TreeSet<Integer> changed = new TreeSet<>();
        int tick;
        int end = -1;

        Run(Plan plan) {
            this.plan = plan;
            for (int cell : plan.balls) {
                Ball b = new Ball();
                b.cell = cell;
                balls.add(b);
            }
            for (int[] s : plan.starts) {
                setAt(s[2], s[0], s[1], null, false);
            }
            while (end < 0) {
                oneTick();
            }
        }

        void setAt(int when, int cell, int side, Strike cause, boolean leaps) {
            Strike s = new Strike();
            s.tick = when;
            s.cell = cell;
            s.side = side;
            s.cause = cause;
            s.leaps = leaps;
            set.add(s);
        }

        void lead(int ticks, int cell, int way, Strike cause, boolean leaps) {
            int to = next(cell, way);
            if (to >= 0) {
                setAt(tick + ticks, to, far(way), cause, leaps);
            }
        }

        Ball ballIn(int cell) {
            for (Ball b : balls) {
                if (!b.gone && b.cell == cell) {
                    return b;
                }
            }
            return null;
        }

        boolean nothingIn(int cell) {
            return !plan.pieces.containsKey(cell) && ballIn(cell) == null;
        }

        void oneTick() {
            List<Ball> roll = new ArrayList<>();
            for (Ball b : balls) {
                if (!b.gone && b.way >= 0) {
                    roll.add(b);
                }
            }
            for (int i = 0; i < set.size() && end < 0; i++) {
                Strike s = set.get(i);
                if (s.tick == tick && s.number < 0) {
                    if (s.leaps && nothingIn(s.cell)) {
                        int behind = next(s.cell, far(s.side));
                        if (behind >= 0 && !nothingIn(behind)) {
                            s.cell = behind;
                            seen[0]++;
                        }
                    }
                    strike(s);
                }
            }
            for (Ball b : roll) {
                if (end < 0) {
                    roll(b);
                }
            }
            if (end < 0) {
                set.removeIf(s -> s.number >= 0);
                boolean rolls = false;
                for (Ball b : balls) {
                    rolls |= !b.gone && b.way >= 0;
                }
                if (set.isEmpty() && !rolls) {
                    end = 0;
                } else if (tick == 399) {
                    end = 1;
                    seen[1]++;
                } else {
                    tick++;
                }
            }
        }

        void strike(Strike s) {
            s.number = done.size();
            done.add(s);
            int times = struck.merge(s.cell, 1, Integer::sum);
            Ball ball = ballIn(s.cell);
            Piece p = plan.pieces.get(s.cell);
            if (ball != null) {
                boolean track = p != null && p.kind == 9;
                if (ball.way >= 0) {
                    seen[2]++;
                } else if (!track || (p.a & 1 << far(s.side)) != 0) {
                    ball.way = far(s.side);
                    ball.steps = 6;
                    ball.cause = s;
                    seen[3]++;
                } else {
                    seen[4]++;
                }
            } else if (p == null) {
                s.lost = true;
            } else {
                work(s, p, times);
            }
            if (done.size() == 1000) {
                end = 2;
                seen[5]++;
            }
        }

        void work(Strike s, Piece p, int times) {
            switch (p.kind) {
                case 1:
                    if (!changed.contains(s.cell) && (p.a == 0) == (s.side == 0 || s.side == 2)) {
                        changed.add(s.cell);
                        lead(2, s.cell, far(s.side), s, true);
                    }
                    break;
                case 2:
                    if (s.side != p.a) {
                        lead(1, s.cell, p.a, s, false);
                    }
                    break;
                case 3:
                    if (times == 1 && !struck.containsKey(p.other)) {
                        lead(1, p.other, plan.pieces.get(p.other).a, s, false);
                    }
                    break;
                case 4:
                    if (times == 1) {
                        lead(p.b, s.cell, p.a, s, false);
                    }
                    break;
                case 5:
                    for (int k = 0; k < 4; k++) {
                        if (times == 1 && k != s.side) {
                            lead(1, s.cell, k, s, false);
                        }
                    }
                    break;
                case 6:
                    if (times == p.b) {
                        lead(1, s.cell, p.a, s, false);
                    }
                    break;
                case 7:
                    changed.add(s.cell);
                    break;
                case 8:
                    rings.add(s);
                    break;
                default:
                    break;
            }
        }

        void roll(Ball b) {
            int to = next(b.cell, b.way);
            int from = far(b.way);
            if (to < 0) {
                b.gone = true;
                b.way = -1;
                seen[6]++;
                return;
            }
            Piece p = plan.pieces.get(to);
            boolean goes = ballIn(to) == null;
            int way = b.way;
            if (goes && p != null) {
                if (p.kind == 7) {
                    goes = changed.contains(to);
                    seen[7] += goes ? 1 : 0;
                } else if (p.kind == 9 && (p.a >> from) % 2 == 1) {
                    way = Integer.numberOfTrailingZeros(p.a - (1 << from));
                    seen[8]++;
                } else {
                    goes = false;
                }
            }
            if (goes) {
                b.cell = to;
                b.steps--;
                b.way = b.steps == 0 ? -1 : way;
                return;
            }
            b.way = -1;
            Strike s = new Strike();
            s.tick = tick;
            s.cell = to;
            s.side = from;
            s.cause = b.cause;
            s.byBall = true;
            strike(s);
        }

        int firstRing(int cell) {
            for (Strike s : rings) {
                if (s.cell == cell) {
                    return s.tick;
                }
            }
            return -1;
        }

        boolean meets(int bell, int wished) {
            int first = firstRing(bell);
            return first >= 0 && (wished == -1 || wished == first);
        }

        TreeSet<Integer> lostCells() {
            TreeSet<Integer> cells = new TreeSet<>();
            for (Strike s : done) {
                if (s.lost) {
                    cells.add(s.cell);
                }
            }
            return cells;
        }
    }

    private static final class Model {
        Plan plan = new Plan();
        final Object[] shelves = new Object[8];
        final int[] sorts = new int[8];
        final int[] refusals = new int[8];
        int runs;
        Run latest;
        List<Integer> weak = new ArrayList<>();
        List<Integer> fit = new ArrayList<>();
        List<Integer> few = new ArrayList<>();

        long call(int which, long[] g) {
            try {
                return which < 16 ? planCall(which, g) : runCall(which, g);
            } catch (Refused r) {
                refusals[-r.number]++;
                return r.number;
            }
        }

        void shelf(int s) {
            refuseIf(s < 0 || s > 7, -1);
        }

        long[] rowOf(int s) {
            shelf(s);
            refuseIf(shelves[s] instanceof Plan, -2);
            refuseIf(shelves[s] == null, -3);
            return (long[]) shelves[s];
        }

        long planCall(int which, long[] g) {
            int a = (int) g[0];
            int b = (int) g[1];
            int c = (int) g[2];
            int d = (int) g[3];
            switch (which) {
                case 0:
                    plan.put(a, b, c, d);
                    return 1;
                case 1:
                    refuseIf(a < 0 || a > 95 || c < 0 || c > 95, -1);
                    refuseIf(b < 0 || b > 3 || d < 0 || d > 3 || a == c || !plan.empty(a) || !plan.empty(c), -6);
                    plan.pieces.put(a, new Piece(3, b, 0, c));
                    plan.pieces.put(c, new Piece(3, d, 0, a));
                    return 1;
                case 2:
                    plan.ball(a);
                    return 1;
                case 3: {
                    refuseIf(a < 0 || a > 95, -1);
                    plan.balls.remove(a);
                    Piece p = plan.pieces.remove(a);
                    if (p != null && p.kind == 3) {
                        plan.pieces.remove(p.other);
                    }
                    return p == null ? 0 : p.kind;
                }
                case 4:
                    refuseIf(a < 0 || a > 95, -1);
                    refuseIf(b < 0 || b > 3 || c < 0 || c > 99, -6);
                    refuseIf(plan.starts.size() == 4, -7);
                    plan.starts.add(new int[] {a, b, c});
                    return plan.starts.size();
                case 5: {
                    int were = plan.starts.size();
                    plan.starts.clear();
                    return were;
                }
                case 6:
                    shelf(a);
                    refuseIf(c < 0, -4);
                    refuseIf(b < 0 || b > 3, -6);
                    refuseIf(c > 100, -7);
                    shelves[a] = new long[c];
                    sorts[a] = b;
                    return 1;
                case 7: {
                    long[] row = rowOf(a);
                    refuseIf(b < 0 || b >= row.length, -5);
                    int drop = 64 - (8 << sorts[a]);
                    row[b] = g[4] << drop >> drop;
                    return 1;
                }
                case 8:
                    return copy(a, b, c, d, (int) g[4]);
                case 9:
                    if (a < 0 || a > 7 || !(shelves[a] instanceof long[])) {
                        return 0;
                    }
                    return b < 0 || b >= ((long[]) shelves[a]).length ? 0 : ((long[]) shelves[a])[b];
                case 10:
                    if (a < 0 || a > 7 || shelves[a] == null) {
                        return -1;
                    }
                    return shelves[a] instanceof Plan ? 0 : 100 + sorts[a];
                case 11:
                    return puts(a);
                case 12:
                    shelf(a);
                    shelves[a] = plan.copy();
                    return plan.pieces.size();
                case 13:
                    shelf(a);
                    refuseIf(shelves[a] instanceof long[], -2);
                    refuseIf(shelves[a] == null, -3);
                    plan = ((Plan) shelves[a]).copy();
                    return plan.pieces.size();
                case 14:
                    return at(a, b);
                default:
                    return status(a);
            }
        }

        long copy(int p, int q, int i, int j, int n) {
            refuseIf(p < 0 || p > 7 || q < 0 || q > 7, -1);
            Object from = shelves[p];
            Object to = shelves[q];
            refuseIf(from instanceof Plan || to instanceof Plan, -2);
            refuseIf(from != null && to != null && sorts[p] != sorts[q], -2);
            refuseIf(from == null || to == null, -3);
            refuseIf(n < 0, -4);
            refuseIf(i < 0 || j < 0 || (long) i + n > ((long[]) from).length || (long) j + n > ((long[]) to).length, -5);
            long[] were = ((long[]) from).clone();
            for (int k = 0; k < n; k++) {
                ((long[]) to)[j + k] = were[i + k];
            }
            return 1;
        }

        long puts(int s) {
            long[] row = rowOf(s);
            refuseIf(row.length % 4 != 0, -6);
            Plan whole = plan.copy();
            try {
                for (int i = 0; i < row.length; i += 4) {
                    if ((int) row[i + 1] == 10) {
                        whole.ball((int) row[i]);
                    } else {
                        whole.put((int) row[i], (int) row[i + 1], (int) row[i + 2], (int) row[i + 3]);
                    }
                }
            } catch (Refused r) {
                throw new Refused(-6);
            }
            plan = whole;
            return row.length / 4;
        }

        long at(int cell, int what) {
            if (cell < 0 || cell > 95) {
                return -1;
            }
            Piece p = plan.pieces.get(cell);
            switch (what) {
                case 0: return p == null ? 0 : p.kind;
                case 1: return p == null ? 0 : p.a;
                case 2: return p == null ? 0 : p.b;
                case 3: return plan.balls.contains(cell) ? 1 : 0;
                case 4: return p == null ? -1 : p.other;
                default: return -1;
            }
        }

        long status(int what) {
            switch (what) {
                case 0: return plan.pieces.size();
                case 1: return plan.balls.size();
                case 2: return plan.starts.size();
                case 3: return plan.pieces.values().stream().filter(p -> p.kind == 8).count();
                case 4: return runs;
                default: return what >= 11 && what <= 17 ? refusals[what - 10] : -1;
            }
        }

        long runCall(int which, long[] g) {
            int a = (int) g[0];
            int b = (int) g[1];
            int c = (int) g[2];
            switch (which) {
                case 16:
                    runs++;
                    latest = new Run(plan.copy());
                    return latest.tick;
                case 17: return ran(a);
                case 18: return strike(a, b);
                case 19: return ended(a, b);
                case 20: return why(a, b);
                case 21: return new Run(plan).meets(a, b) ? 1 : 0;
                case 22: return fragile(a, b);
                case 23: return told(weak, a);
                case 24: return fits(a, b, c);
                case 25: return told(fit, a);
                case 26: return fewest(a, b);
                case 27: return told(few, a);
                default: return tune(a);
            }
        }

        long told(List<Integer> list, int i) {
            return i < 0 || i >= list.size() ? -1 : list.get(i);
        }

        long ran(int what) {
            if (latest == null) {
                return -1;
            }
            switch (what) {
                case 0: return latest.end;
                case 1: return latest.tick;
                case 2: return latest.done.size();
                case 3: return latest.done.stream().filter(s -> s.lost).count();
                case 4: return latest.rings.size();
                case 5: return latest.balls.stream().filter(s -> s.gone).count();
                default: return -1;
            }
        }

        long strike(int i, int what) {
            if (latest == null || i < 0 || i >= latest.done.size()) {
                return -1;
            }
            Strike s = latest.done.get(i);
            switch (what) {
                case 0: return s.tick;
                case 1: return s.cell;
                case 2: return s.side;
                case 3: return s.cause == null ? -1 : s.cause.number;
                case 4: return s.lost ? 1 : 0;
                case 5: return s.byBall ? 1 : 0;
                default: return -1;
            }
        }

        long ended(int cell, int what) {
            if (latest == null || cell < 0 || cell > 95) {
                return -1;
            }
            switch (what) {
                case 0: return latest.firstRing(cell);
                case 1: return latest.rings.stream().filter(s -> s.cell == cell).count();
                case 2: return latest.done.stream().filter(s -> s.cell == cell).count();
                case 3: return latest.ballIn(cell) != null ? 1 : 0;
                case 4: return latest.changed.contains(cell) ? 1 : 0;
                default: return -1;
            }
        }

        long why(int cell, int i) {
            if (latest != null) {
                for (Strike ring : latest.rings) {
                    if (ring.cell == cell) {
                        List<Integer> chain = new ArrayList<>();
                        for (Strike s = ring; s != null; s = s.cause) {
                            chain.add(0, s.number);
                        }
                        return told(chain, i);
                    }
                }
            }
            return -1;
        }

        long fragile(int bell, int tick) {
            weak = new ArrayList<>();
            if (!plan.isBell(bell) || !new Run(plan).meets(bell, tick)) {
                return -1;
            }
            for (int code = 0; code < 96 * 8; code++) {
                int cell = code / 8;
                boolean ofBall = code % 8 >= 4;
                int to = next(cell, code % 4);
                Plan shifted = plan.copy();
                if (to < 0 || !plan.empty(to) || ofBall != plan.balls.contains(cell)) {
                    continue;
                }
                if (ofBall) {
                    shifted.balls.remove(cell);
                    shifted.balls.add(to);
                } else {
                    Piece p = shifted.pieces.remove(cell);
                    if (p == null || p.kind == 8) {
                        continue;
                    }
                    shifted.pieces.put(to, p);
                    if (p.kind == 3) {
                        shifted.pieces.put(p.other, new Piece(3, shifted.pieces.get(p.other).a, 0, to));
                    }
                }
                if (!new Run(shifted).meets(bell, tick)) {
                    weak.add(code);
                }
            }
            seen[9] += weak.isEmpty() ? 0 : 1;
            return weak.size();
        }

        long fits(int cell, int bell, int tick) {
            refuseIf(cell < 0 || cell > 95, -1);
            refuseIf(!plan.empty(cell), -6);
            fit = new ArrayList<>();
            if (!plan.isBell(bell)) {
                return 0;
            }
            for (int kind = 1; kind <= 9; kind++) {
                for (int a = 0; a <= 12; a++) {
                    for (int b = 0; b <= 9; b++) {
                        boolean bRight = kind == 4 ? b >= 1 : kind == 6 ? b >= 1 && b <= 3 : b == 0;
                        boolean aRight = kind == 1 ? a < 2 : kind == 2 || kind == 4 || kind == 6 ? a < 4
                            : kind == 9 ? Integer.bitCount(a) == 2 : a == 0;
                        if (kind != 3 && kind != 8 && aRight && bRight
                            && new Run(plan.with(cell, kind, a, b)).meets(bell, tick)) {
                            fit.add(1000 * kind + 10 * a + b);
                        }
                    }
                }
            }
            return fit.size();
        }

        /** The rows that reach the wish with so many pieces more, the least first; null if there is none. */
        List<Integer> rowOf(Plan now, int pieces, int bell, int tick) {
            Run run = new Run(now);
            if (pieces == 0) {
                return run.meets(bell, tick) ? new ArrayList<>() : null;
            }
            for (int cell : run.lostCells()) {
                for (int k = 0; k < 6 && plan.empty(cell); k++) {
                    int kind = k < 2 ? 1 : 2;
                    int a = k < 2 ? k : k - 2;
                    List<Integer> rest = rowOf(now.with(cell, kind, a, 0), pieces - 1, bell, tick);
                    if (rest != null) {
                        rest.add(0, 100 * cell + 10 * kind + a);
                        return rest;
                    }
                }
            }
            return null;
        }

        long fewest(int bell, int tick) {
            few = new ArrayList<>();
            for (int pieces = 0; pieces <= 2 && plan.isBell(bell); pieces++) {
                List<Integer> row = rowOf(plan, pieces, bell, tick);
                if (row != null) {
                    few = row;
                    seen[9 + pieces] += pieces > 0 ? 1 : 0;
                    return pieces;
                }
            }
            return -1;
        }

        long tune(int s) {
            long[] row = rowOf(s);
            List<Strike> rings = latest == null ? new ArrayList<>() : latest.rings;
            int i = 0;
            while (i < row.length && i < rings.size() && (int) row[i] == rings.get(i).tick) {
                i++;
            }
            return i == row.length && i == rings.size() ? 1000 : i;
        }
    }

    private static final String[] NAMES = {
        "put", "cords", "ball", "raze", "start", "noStarts", "row", "set", "copy", "element", "holds", "puts", "keep", "load",
        "at", "status", "run", "ran", "strike", "ended", "why", "met", "fragile", "weak", "fits", "fit", "fewest",
        "fewestPiece", "tune",
    };

    private static long call(FallChain x, int which, long[] g) {
        int a = (int) g[0];
        int b = (int) g[1];
        int c = (int) g[2];
        int d = (int) g[3];
        switch (which) {
            case 0: return x.put(a, b, c, d);
            case 1: return x.cords(a, b, c, d);
            case 2: return x.ball(a);
            case 3: return x.raze(a);
            case 4: return x.start(a, b, c);
            case 5: return x.noStarts();
            case 6: return x.row(a, b, c);
            case 7: return x.set(a, b, g[4]);
            case 8: return x.copy(a, b, c, d, (int) g[4]);
            case 9: return x.element(a, b);
            case 10: return x.holds(a);
            case 11: return x.puts(a);
            case 12: return x.keep(a);
            case 13: return x.load(a);
            case 14: return x.at(a, b);
            case 15: return x.status(a);
            case 16: return x.run();
            case 17: return x.ran(a);
            case 18: return x.strike(a, b);
            case 19: return x.ended(a, b);
            case 20: return x.why(a, b);
            case 21: return x.met(a, b) ? 1 : 0;
            case 22: return x.fragile(a, b);
            case 23: return x.weak(a);
            case 24: return x.fits(a, b, c);
            case 25: return x.fit(a);
            case 26: return x.fewest(a, b);
            case 27: return x.fewestPiece(a);
            default: return x.tune(a);
        }
    }

    /** A run of calls on both; the region is small, so that what lies in it meets. */
    private static final class Pair {
        final int seed;
        final Random random;
        final FallChain x = new FallChain();
        final Model model = new Model();
        final int left;
        final int top;
        final int wide;
        final int high;
        int calls;
        boolean agree = true;

        Pair(int seed) {
            this.seed = seed;
            random = new Random(seed);
            wide = 3 + random.nextInt(7);
            high = 2 + random.nextInt(6);
            left = random.nextInt(13 - wide);
            top = random.nextInt(9 - high);
        }

        int up(int bound) {
            return random.nextInt(bound);
        }

        boolean rarely() {
            return up(40) == 0;
        }

        int odd() {
            int[] odd = {-1, -2, 4, 5, 8, 10, 11, 60, 61, 96, 97, 100, 101, 1000, Integer.MIN_VALUE, Integer.MAX_VALUE};
            return odd[up(odd.length)];
        }

        int cell() {
            return rarely() ? odd() : 12 * (top + up(high)) + left + up(wide);
        }

        int bell() {
            List<Integer> bells = new ArrayList<>();
            for (Map.Entry<Integer, Piece> e : model.plan.pieces.entrySet()) {
                if (e.getValue().kind == 8) {
                    bells.add(e.getKey());
                }
            }
            return bells.isEmpty() || rarely() ? cell() : bells.get(up(bells.size()));
        }

        int wished(int bell) {
            if (up(3) == 0) {
                return up(12);
            }
            int first = bell >= 0 && bell < 96 ? new Run(model.plan).firstRing(bell) : -1;
            return up(2) == 0 ? -1 : first + up(3) - up(2);
        }

        int shelf() {
            return rarely() ? odd() : up(up(2) == 0 ? 3 : 8);
        }

        int side() {
            return rarely() ? odd() : up(4);
        }

        void both(int which, long... given) {
            // What an object answers behind its 512th call is free.
            if (!agree || calls >= MOST_CALLS) {
                return;
            }
            long[] g = new long[5];
            System.arraycopy(given, 0, g, 0, given.length);
            long got = call(x, which, g);
            long want = model.call(which, g);
            calls++;
            if (got != want) {
                agree = false;
                wrong++;
                StringBuilder text = new StringBuilder("seed " + seed + ", call " + calls + ": " + NAMES[which] + "(");
                for (int i = 0; i < given.length; i++) {
                    text.append(i > 0 ? ", " : "").append(given[i]);
                }
                System.out.println(text + ") answered " + got + ", due is " + want);
            }
        }

        void putSome() {
            int kind = rarely() ? odd() : new int[] {1, 1, 1, 2, 2, 2, 4, 5, 5, 6, 7, 7, 8, 8, 9, 9, 9}[up(17)];
            int a = rarely() ? odd() : kind == 1 ? up(2) : kind == 9 ? new int[] {3, 5, 6, 9, 10, 12}[up(6)] : up(4);
            int b = rarely() ? odd() : kind == 6 ? 1 + up(3) : kind == 4 && up(4) > 0 ? 1 + up(9) : up(62);
            both(0, cell(), kind, a, b);
        }

        void startSome() {
            List<Integer> cells = new ArrayList<>(model.plan.pieces.keySet());
            cells.addAll(model.plan.balls);
            int cell = cells.isEmpty() || up(5) == 0 ? cell() : cells.get(up(cells.size()));
            both(4, cell, side(), rarely() ? odd() : up(up(2) == 0 ? 6 : 100));
        }

        void rowSome() {
            int s = shelf();
            int sort = rarely() ? odd() : up(4);
            int pieces = up(4);
            both(6, s, sort, rarely() ? odd() : 4 * pieces + (rarely() ? 1 : 0));
            for (int i = 0; i < 4 * pieces; i++) {
                long high = up(10) == 0 ? (long) up(100) << 32 : 0;
                long v = i % 4 == 0 ? cell() : i % 4 == 1 ? 1 + up(10) : i % 4 == 2 ? up(4) : 1 + up(9);
                both(7, s, rarely() ? odd() : i, rarely() ? 0 : 0, 0, v + high);
            }
            both(11, s);
        }

        void askRun() {
            both(16);
            for (int what = -1; what <= 6; what++) {
                both(17, what);
            }
            int done = (int) model.ran(2);
            for (int k = 0; k < 12; k++) {
                both(18, done <= 12 ? k : done - 1 - up(done), up(7) - (rarely() ? 1 : 0));
                both(19, cell(), up(6) - (rarely() ? 1 : 0));
            }
            both(18, done, 0);
            int bell = bell();
            for (int i = 0; i < 6; i++) {
                both(20, bell, i);
            }
            both(20, bell, rarely() ? odd() : up(300));
            tuneSome();
        }

        void tuneSome() {
            int rings = Math.min(100, (int) model.ran(4));
            int s = up(3);
            both(6, s, 1 + up(3), Math.max(0, rings + (up(3) == 0 ? up(3) - 1 : 0)));
            for (int i = 0; i < Math.min(rings, 20); i++) {
                both(7, s, i, 0, 0, model.latest.rings.get(i).tick + (up(25) == 0 ? 1 : 0));
            }
            both(28, s);
            both(28, shelf());
        }

        void wish() {
            int bell = bell();
            int tick = wished(bell);
            both(21, bell, tick);
            both(22, bell, tick);
            for (int i = 0; i < 6; i++) {
                both(23, i - (rarely() ? 2 : 0));
            }
            both(23, up(40));
            both(24, cell(), bell, tick);
            for (int i = 0; i < 5; i++) {
                both(25, i == 0 ? up(5) - 1 : up(63));
            }
            if (up(3) == 0) {
                both(26, bell, tick);
                both(27, 0);
                both(27, 1);
                both(27, up(4) - 1);
            }
        }

        void shelves() {
            switch (up(6)) {
                case 0: both(12, shelf()); break;
                case 1: both(13, shelf()); break;
                case 2: both(10, shelf()); break;
                case 3: both(9, shelf(), rarely() ? odd() : up(16)); break;
                case 4: {
                    int p = shelf();
                    both(8, p, up(2) == 0 ? p : shelf(), rarely() ? odd() : up(8), rarely() ? odd() : up(8),
                        rarely() ? odd() : up(8));
                    break;
                }
                default: both(7, shelf(), rarely() ? odd() : up(16), 0, 0, random.nextLong()); break;
            }
        }

        void askPlan() {
            for (int k = 0; k < 8; k++) {
                both(14, cell(), up(6) - (rarely() ? 1 : 0));
            }
            for (int what = -1; what <= 18; what++) {
                both(15, what);
            }
        }

        void play() {
            int pieces = 4 + up(wide * high);
            for (int i = 0; i < pieces; i++) {
                putSome();
                if (up(6) == 0) {
                    both(2, cell());
                }
                if (up(15) == 0) {
                    both(1, cell(), side(), cell(), side());
                }
            }
            for (int i = up(5); i >= 0; i--) {
                startSome();
            }
            while (calls < MOST_CALLS - 100 && agree) {
                switch (up(12)) {
                    case 0: askRun(); break;
                    case 1: case 2: wish(); break;
                    case 3: case 4: shelves(); break;
                    case 5: askPlan(); break;
                    case 6: both(3, cell()); break;
                    case 7: both(2, cell()); break;
                    case 8: both(1, cell(), side(), cell(), side()); break;
                    case 9: rowSome(); break;
                    case 10:
                        if (up(3) == 0) {
                            both(5);
                        }
                        startSome();
                        break;
                    default: putSome(); break;
                }
            }
            askPlan();
        }
    }

    /** Rings of levers, which go round for ever, and splits into them, so that runs end for each cause. */
    private static void rings(int seed) {
        Pair p = new Pair(seed);
        int at = p.up(8) + 12 * p.up(5);
        int[][] ring = {{at, 1}, {at + 1, 2}, {at + 13, 3}, {at + 12, 0}};
        for (int[] lever : ring) {
            p.both(0, lever[0], 2, lever[1], 0);
        }
        for (int i = 0; i < 4; i++) {
            int k = p.up(4);
            p.both(4, ring[k][0], (ring[k][1] + 2) % 4, p.up(p.up(2) == 0 ? 100 : 3));
        }
        for (int i = 0; i < 12; i++) {
            p.putSome();
            p.both(2, p.cell());
        }
        p.askRun();
        p.wish();
        p.both(5);
        for (int i = 0; i < 4; i++) {
            p.both(4, ring[0][0], 3, 0);
        }
        p.askRun();
        p.askPlan();
    }

    public static void main(String[] args) {
        int runs = args.length > 0 ? Integer.parseInt(args[0]) : 1500;
        int first = args.length > 1 ? Integer.parseInt(args[1]) : 0;
        for (int seed = first; seed < first + runs && wrong < 20; seed++) {
            new Pair(seed).play();
            if (seed % 10 == 0) {
                rings(seed);
            }
        }
        for (int i = 0; i < seen.length; i++) {
            if (seen[i] == 0) {
                wrong++;
                System.out.println("the runs never came to what seen[" + i + "] counts");
            }
        }
        System.out.println(wrong == 0 ? "all answers are as due" : wrong + " answers are not as due");
        if (wrong != 0) {
            System.exit(1);
        }
    }
}
