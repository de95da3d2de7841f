/** Chains of falls on a plan of 12 by 8 cells; ../shared/DOC.md says what each call promises. */
public final class FallChain {
    public static final int NONE = -1;

    private static final int WIDTH = 12;
    private static final int HEIGHT = 8;
    private static final int CELLS = 96;
    private static final int SIDES = 4;

    private static final int NO_PIECE = 0;
    private static final int DOMINO = 1;
    private static final int LEVER = 2;
    private static final int CORD = 3;
    private static final int TIMER = 4;
    private static final int SPLIT = 5;
    private static final int BUCKET = 6;
    private static final int GATE = 7;
    private static final int BELL = 8;
    private static final int TRACK = 9;
    private static final int BALL = 10;

    private static final int LONGEST_TIMER = 60;
    private static final int BIGGEST_BUCKET = 9;
    private static final int BALL_STEPS = 6;
    private static final int MOST_STARTS = 4;
    private static final int LATEST_START = 99;

    private static final int TICKS = 400;
    private static final int MOST_STRIKES = 1000;
    // A strike that is done sets one at most, but a split two more, once; the starts are set ahead.
    private static final int MOST_SET = MOST_STRIKES + 2 * CELLS + MOST_STARTS;

    private static final int AT_REST = 0;
    private static final int OUT_OF_TICKS = 1;
    private static final int OUT_OF_STRIKES = 2;

    private static final int LOST = 1;
    private static final int BY_BALL = 2;
    private static final int RANG = 4;

    private static final int SHELVES = 8;
    private static final int MOST_ELEMENTS = 100;
    private static final int BYTES = 0;
    private static final int SHORTS = 1;
    private static final int INTS = 2;
    private static final int LONGS = 3;

    private static final int PIECE_ELEMENTS = 4;
    private static final int ALL_AGREE = 1000;

    private static final int FIT_TIMER = 9;
    private static final int FIT_BUCKET = 3;
    private static final int MOST_FITS = 62;
    private static final int MOST_FEWEST = 2;
    // Two dominoes and four levers can be put on a cell.
    private static final int CHOICES = 6;

    private static final int NOBODY = -1;
    private static final int OTHER = -2;
    private static final int NOTHING = -3;
    private static final int BELOW = -4;
    private static final int BEYOND = -5;
    private static final int WRONG = -6;
    private static final int ROOM = -7;
    private static final int REFUSALS = 8;

    private final Plan plan;
    // What a wish or puts() tries is done to the draft, so that the plan stays as it is.
    private final Plan draft;
    // Of a shelf's two places one at most is not null.
    private final Row[] rows = new Row[SHELVES];
    private final Plan[] plans = new Plan[SHELVES];
    private final Run latest;
    private final Run trial;
    private int runs;
    private final int[] refused = new int[REFUSALS];

    private final int[] weakShifts = new int[CELLS * SIDES];
    private int weakCount;
    private final int[] fitPieces = new int[MOST_FITS];
    private int fitCount;
    private final int[] fewestPieces = new int[MOST_FEWEST];
    private int fewestCount;
    private final boolean[] lostFirst = new boolean[CELLS];
    private final boolean[] lostNext = new boolean[CELLS];

    public FallChain() {
        Plan own = new Plan();
        Plan tried = new Plan();
        // A run leaves nothing in the calendar that another one needs, and no call asks for strikes of a trial.
        Calendar calendar = new Calendar();
        plan = own;
        draft = tried;
        latest = new Run(own, calendar, new Log(MOST_STRIKES));
        trial = new Run(tried, calendar, new Log(0));
    }

    // ---- the plan

    public int put(int cell, int kind, int a, int b) {
        if (!isCell(cell)) {
            return refuse(NOBODY);
        }
        if (!plan.takesPiece(cell, kind, a, b)) {
            return refuse(WRONG);
        }
        plan.place(cell, kind, a, b);
        return 1;
    }

    public int cords(int cell1, int side1, int cell2, int side2) {
        if (!isCell(cell1) || !isCell(cell2)) {
            return refuse(NOBODY);
        }
        boolean taken = !plan.isFree(cell1) || !plan.isFree(cell2);
        if (!isSide(side1) || !isSide(side2) || cell1 == cell2 || taken) {
            return refuse(WRONG);
        }
        plan.tie(cell1, side1, cell2);
        plan.tie(cell2, side2, cell1);
        return 1;
    }

    public int ball(int cell) {
        if (!isCell(cell)) {
            return refuse(NOBODY);
        }
        if (!plan.takesBall(cell)) {
            return refuse(WRONG);
        }
        plan.layBall(cell);
        return 1;
    }

    public int raze(int cell) {
        if (!isCell(cell)) {
            return refuse(NOBODY);
        }
        int kind = plan.kindOf(cell);
        if (kind == CORD) {
            plan.clear(plan.otherOf(cell));
        }
        plan.clear(cell);
        return kind;
    }

    public int start(int cell, int side, int tick) {
        if (!isCell(cell)) {
            return refuse(NOBODY);
        }
        if (!isSide(side) || tick < 0 || tick > LATEST_START) {
            return refuse(WRONG);
        }
        if (!plan.addStart(cell, side, tick)) {
            return refuse(ROOM);
        }
        return plan.starts;
    }

    public int noStarts() {
        int were = plan.starts;
        plan.starts = 0;
        return were;
    }

    public int at(int cell, int what) {
        if (!isCell(cell)) {
            return NONE;
        }
        switch (what) {
            case 0: return plan.kindOf(cell);
            case 1: return plan.aOf(cell);
            case 2: return plan.bOf(cell);
            case 3: return plan.hasBall(cell) ? 1 : 0;
            case 4: return plan.otherOf(cell);
            default: return NONE;
        }
    }

    public int status(int what) {
        switch (what) {
            case 0: return plan.countPieces();
            case 1: return plan.countBalls();
            case 2: return plan.starts;
            case 3: return plan.countBells();
            case 4: return runs;
            default: break;
        }
        int number = what - 10;
        return number >= 1 && number < REFUSALS ? refused[number] : NONE;
    }

    // ---- shelves

    public int row(int s, int sort, int n) {
        if (!isShelf(s)) {
            return refuse(NOBODY);
        }
        if (n < 0) {
            return refuse(BELOW);
        }
        if (sort < BYTES || sort > LONGS) {
            return refuse(WRONG);
        }
        if (n > MOST_ELEMENTS) {
            return refuse(ROOM);
        }
        plans[s] = null;
        rows[s] = new Row(sort, n);
        return 1;
    }

    public int set(int s, int i, long v) {
        Row row = rowOn(s);
        if (row == null) {
            return refuse(whyNoRow(s));
        }
        if (!row.holdsPart(i, 1)) {
            return refuse(BEYOND);
        }
        row.change(i, v);
        return 1;
    }

    public int copy(int p, int q, int i, int j, int n) {
        if (!isShelf(p) || !isShelf(q)) {
            return refuse(NOBODY);
        }
        Row from = rows[p];
        Row to = rows[q];
        boolean twoSorts = from != null && to != null && from.sort != to.sort;
        if (plans[p] != null || plans[q] != null || twoSorts) {
            return refuse(OTHER);
        }
        if (from == null || to == null) {
            return refuse(NOTHING);
        }
        if (n < 0) {
            return refuse(BELOW);
        }
        if (!from.holdsPart(i, n) || !to.holdsPart(j, n)) {
            return refuse(BEYOND);
        }
        System.arraycopy(from.elements, i, to.elements, j, n);
        return 1;
    }

    public long element(int s, int i) {
        Row row = rowOn(s);
        return row == null ? 0 : row.valueOf(i);
    }

    public int holds(int s) {
        if (!isShelf(s)) {
            return NONE;
        }
        if (plans[s] != null) {
            return 0;
        }
        Row row = rows[s];
        return row == null ? NONE : 100 + row.sort;
    }

    public int puts(int s) {
        Row row = rowOn(s);
        if (row == null) {
            return refuse(whyNoRow(s));
        }
        int size = row.size();
        if (size % PIECE_ELEMENTS != 0) {
            return refuse(WRONG);
        }
        draft.become(plan);
        for (int i = 0; i < size; i += PIECE_ELEMENTS) {
            if (!draftTakes(row.intOf(i), row.intOf(i + 1), row.intOf(i + 2), row.intOf(i + 3))) {
                return refuse(WRONG);
            }
        }
        plan.become(draft);
        return size / PIECE_ELEMENTS;
    }

    public int keep(int s) {
        if (!isShelf(s)) {
            return refuse(NOBODY);
        }
        Plan kept = plans[s];
        if (kept == null) {
            kept = new Plan();
            plans[s] = kept;
            rows[s] = null;
        }
        kept.become(plan);
        return plan.countPieces();
    }

    public int load(int s) {
        if (!isShelf(s)) {
            return refuse(NOBODY);
        }
        if (rows[s] != null) {
            return refuse(OTHER);
        }
        Plan kept = plans[s];
        if (kept == null) {
            return refuse(NOTHING);
        }
        plan.become(kept);
        return plan.countPieces();
    }

    // ---- runs

    public int run() {
        runs++;
        latest.play(plan, NONE, NONE);
        return latest.tick;
    }

    public int ran(int what) {
        if (runs == 0) {
            return NONE;
        }
        switch (what) {
            case 0: return latest.end;
            case 1: return latest.tick;
            case 2: return latest.log.count;
            case 3: return latest.lost;
            case 4: return latest.rang;
            case 5: return latest.balls.gone;
            default: return NONE;
        }
    }

    public int strike(int i, int what) {
        Log log = latest.log;
        if (!log.tells(i)) {
            return NONE;
        }
        switch (what) {
            case 0: return log.tick[i];
            case 1: return log.place[i] / SIDES;
            case 2: return log.place[i] % SIDES;
            case 3: return log.cause[i];
            case 4: return log.isSo(i, LOST) ? 1 : 0;
            case 5: return log.isSo(i, BY_BALL) ? 1 : 0;
            default: return NONE;
        }
    }

    public int ended(int cell, int what) {
        if (runs == 0 || !isCell(cell)) {
            return NONE;
        }
        switch (what) {
            case 0: return latest.firstRing[cell];
            case 1: return latest.rings[cell];
            case 2: return latest.hits[cell];
            case 3: return latest.balls.numberIn(cell) != NONE ? 1 : 0;
            case 4: return latest.changed[cell] ? 1 : 0;
            default: return NONE;
        }
    }

    public int why(int cell, int i) {
        if (i < 0) {
            return NONE;
        }
        Log log = latest.log;
        int ring = log.firstRingOf(cell);
        return log.causeBefore(ring, log.causesOf(ring) - i);
    }

    public int tune(int s) {
        Row row = rowOn(s);
        if (row == null) {
            return refuse(whyNoRow(s));
        }
        Log log = latest.log;
        int agreed = 0;
        for (int i = 0; i < log.count; i++) {
            if (log.isSo(i, RANG)) {
                if (agreed >= row.size() || row.intOf(agreed) != log.tick[i]) {
                    return agreed;
                }
                agreed++;
            }
        }
        return agreed == row.size() ? ALL_AGREE : agreed;
    }

    // ---- wishes

    public boolean met(int bell, int tick) {
        return trial.play(plan, bell, tick);
    }

    public int fragile(int bell, int tick) {
        weakCount = 0;
        if (!trial.play(plan, bell, tick)) {
            return NONE;
        }
        for (int cell = 0; cell < CELLS; cell++) {
            for (int side = 0; side < SIDES; side++) {
                int to = beside(cell, side);
                if (plan.isMovable(cell) && plan.isFree(to)) {
                    draft.become(plan);
                    draft.move(cell, to);
                    if (!trial.play(draft, bell, tick)) {
                        addWeak(8 * cell + (plan.hasBall(cell) ? 4 : 0) + side);
                    }
                }
            }
        }
        return weakCount;
    }

    public int weak(int i) {
        return i >= 0 && i < weakCount && i < weakShifts.length ? weakShifts[i] : NONE;
    }

    public int fits(int cell, int bell, int tick) {
        if (!isCell(cell)) {
            return refuse(NOBODY);
        }
        if (!plan.isFree(cell)) {
            return refuse(WRONG);
        }
        fitCount = 0;
        if (plan.kindOf(bell) != BELL) {
            return 0;
        }
        draft.become(plan);
        for (int kind = DOMINO; kind <= TRACK; kind++) {
            for (int a = 0; a <= mostA(kind); a++) {
                for (int b = leastB(kind); b <= mostFitB(kind); b++) {
                    if (draft.takesPiece(cell, kind, a, b)) {
                        draft.place(cell, kind, a, b);
                        if (trial.play(draft, bell, tick)) {
                            addFit(1000 * kind + 10 * a + b);
                        }
                        draft.clear(cell);
                    }
                }
            }
        }
        return fitCount;
    }

    public int fit(int i) {
        return i >= 0 && i < fitCount && i < fitPieces.length ? fitPieces[i] : NONE;
    }

    public int fewest(int bell, int tick) {
        fewestCount = 0;
        if (plan.kindOf(bell) != BELL) {
            return NONE;
        }
        draft.become(plan);
        if (meetsWhole(lostFirst, bell, tick)) {
            return 0;
        }
        int only = findPiece(lostFirst, bell, tick);
        if (only != NONE) {
            addFewest(only);
            return fewestCount;
        }
        for (int choice = 0; choice < CELLS * CHOICES; choice++) {
            if (placeChoice(lostFirst, choice)) {
                meetsWhole(lostNext, bell, tick);
                int second = findPiece(lostNext, bell, tick);
                if (second != NONE) {
                    addFewest(choice);
                    addFewest(second);
                    return fewestCount;
                }
                draft.clear(choice / CHOICES);
            }
        }
        return NONE;
    }

    public int fewestPiece(int i) {
        return i >= 0 && i < fewestCount && i < fewestPieces.length ? fewestPieces[i] : NONE;
    }

    // ---- what the calls share

    private int refuse(int number) {
        int i = -number;
        if (i >= 0 && i < REFUSALS) {
            refused[i]++;
        }
        return number;
    }

    private Row rowOn(int s) {
        return isShelf(s) ? rows[s] : null;
    }

    private int whyNoRow(int s) {
        if (!isShelf(s)) {
            return NOBODY;
        }
        return plans[s] != null ? OTHER : NOTHING;
    }

    private boolean draftTakes(int cell, int kind, int a, int b) {
        boolean takes = kind == BALL ? draft.takesBall(cell) : draft.takesPiece(cell, kind, a, b);
        if (takes && kind == BALL) {
            draft.layBall(cell);
        } else if (takes) {
            draft.place(cell, kind, a, b);
        }
        return takes;
    }

    private void addWeak(int shift) {
        if (weakCount < weakShifts.length) {
            weakShifts[weakCount] = shift;
            weakCount++;
        }
    }

    private void addFit(int piece) {
        if (fitCount < fitPieces.length) {
            fitPieces[fitCount] = piece;
            fitCount++;
        }
    }

    /** Whether the draft meets the wish; its run goes to its end, so that all cells of lost strikes are told. */
    private boolean meetsWhole(boolean[] lost, int bell, int tick) {
        trial.play(draft, NONE, NONE);
        for (int cell = 0; cell < CELLS && cell < lost.length; cell++) {
            lost[cell] = trial.lostOn[cell];
        }
        return trial.meets(bell, tick);
    }

    /** The first choice that makes the draft meet the wish, or NONE; the draft stays as it was. */
    private int findPiece(boolean[] lost, int bell, int tick) {
        for (int choice = 0; choice < CELLS * CHOICES; choice++) {
            if (placeChoice(lost, choice)) {
                boolean meets = trial.play(draft, bell, tick);
                draft.clear(choice / CHOICES);
                if (meets) {
                    return choice;
                }
            }
        }
        return NONE;
    }

    /** Choices rise as the numbers that fewestPiece() tells, so the first row that does is the least one. */
    private boolean placeChoice(boolean[] lost, int choice) {
        int cell = choice / CHOICES;
        // The draft has all that the plan has, so a cell that is free in it is free in the plan.
        if (cell < 0 || cell >= lost.length || !lost[cell] || !draft.isFree(cell)) {
            return false;
        }
        draft.place(cell, choiceKind(choice), choiceA(choice), 0);
        return true;
    }

    private void addFewest(int choice) {
        if (fewestCount < fewestPieces.length) {
            fewestPieces[fewestCount] = 100 * (choice / CHOICES) + 10 * choiceKind(choice) + choiceA(choice);
            fewestCount++;
        }
    }

    private static int choiceKind(int choice) {
        return choice % CHOICES < 2 ? DOMINO : LEVER;
    }

    private static int choiceA(int choice) {
        int of = choice % CHOICES;
        return of < 2 ? of : of - 2;
    }

    private static boolean isCell(int cell) {
        return cell >= 0 && cell < CELLS;
    }

    private static boolean isSide(int side) {
        return side >= 0 && side < SIDES;
    }

    private static boolean isShelf(int s) {
        return s >= 0 && s < SHELVES;
    }

    private static int opposite(int side) {
        return (side + 2) % SIDES;
    }

    private static int beside(int cell, int side) {
        int x = cell % WIDTH;
        int y = cell / WIDTH;
        switch (side) {
            case 0: return y > 0 ? cell - WIDTH : NONE;
            case 1: return x < WIDTH - 1 ? cell + 1 : NONE;
            case 2: return y < HEIGHT - 1 ? cell + WIDTH : NONE;
            case 3: return x > 0 ? cell - 1 : NONE;
            default: return NONE;
        }
    }

    // ---- what a and b may be

    private static boolean countsA(int kind) {
        return kind != SPLIT && kind != GATE && kind != BELL;
    }

    private static boolean countsB(int kind) {
        return kind == TIMER || kind == BUCKET;
    }

    private static boolean isRightA(int kind, int a) {
        if (!countsA(kind)) {
            return true;
        }
        boolean inRange = a >= 0 && a <= mostA(kind);
        return inRange && (kind != TRACK || Integer.bitCount(a) == 2);
    }

    private static boolean isRightB(int kind, int b) {
        if (!countsB(kind)) {
            return true;
        }
        return b >= 1 && b <= (kind == TIMER ? LONGEST_TIMER : BIGGEST_BUCKET);
    }

    private static int mostA(int kind) {
        if (!countsA(kind)) {
            return 0;
        }
        if (kind == DOMINO) {
            return 1;
        }
        return kind == TRACK ? (1 << SIDES) - 1 : SIDES - 1;
    }

    private static int leastB(int kind) {
        return countsB(kind) ? 1 : 0;
    }

    private static int mostFitB(int kind) {
        if (kind == BELL) {
            return NONE;
        }
        if (!countsB(kind)) {
            return 0;
        }
        return kind == TIMER ? FIT_TIMER : FIT_BUCKET;
    }

    /** Pieces, balls and starts. */
    private static final class Plan {
        final int[] kinds = new int[CELLS];
        final int[] as = new int[CELLS];
        final int[] bs = new int[CELLS];
        // Of a cord the cell of the other one; of no use elsewhere.
        final int[] others = new int[CELLS];
        final boolean[] balls = new boolean[CELLS];
        final int[] startCells = new int[MOST_STARTS];
        final int[] startSides = new int[MOST_STARTS];
        final int[] startTicks = new int[MOST_STARTS];
        int starts;

        void become(Plan model) {
            for (int cell = 0; cell < CELLS; cell++) {
                kinds[cell] = model.kinds[cell];
                as[cell] = model.as[cell];
                bs[cell] = model.bs[cell];
                others[cell] = model.others[cell];
                balls[cell] = model.balls[cell];
            }
            for (int i = 0; i < MOST_STARTS; i++) {
                startCells[i] = model.startCells[i];
                startSides[i] = model.startSides[i];
                startTicks[i] = model.startTicks[i];
            }
            starts = model.starts;
        }

        int kindOf(int cell) {
            return isCell(cell) ? kinds[cell] : NO_PIECE;
        }

        int aOf(int cell) {
            return isCell(cell) ? as[cell] : 0;
        }

        int bOf(int cell) {
            return isCell(cell) ? bs[cell] : 0;
        }

        int otherOf(int cell) {
            return isCell(cell) && kinds[cell] == CORD ? others[cell] : NONE;
        }

        boolean hasBall(int cell) {
            return isCell(cell) && balls[cell];
        }

        boolean isFree(int cell) {
            return isCell(cell) && kinds[cell] == NO_PIECE && !balls[cell];
        }

        boolean isMovable(int cell) {
            int kind = kindOf(cell);
            return hasBall(cell) || kind != NO_PIECE && kind != BELL;
        }

        boolean isEnd(int cell, int side) {
            return isCell(cell) && (as[cell] >> side & 1) == 1;
        }

        boolean takesPiece(int cell, int kind, int a, int b) {
            if (kind < DOMINO || kind > TRACK || kind == CORD || !isRightA(kind, a) || !isRightB(kind, b)) {
                return false;
            }
            boolean underBall = kind == TRACK && hasBall(cell) && kindOf(cell) == NO_PIECE;
            return underBall || isFree(cell);
        }

        boolean takesBall(int cell) {
            int kind = kindOf(cell);
            return isCell(cell) && !balls[cell] && (kind == NO_PIECE || kind == TRACK);
        }

        void place(int cell, int kind, int a, int b) {
            if (isCell(cell)) {
                kinds[cell] = kind;
                as[cell] = countsA(kind) ? a : 0;
                bs[cell] = countsB(kind) ? b : 0;
            }
        }

        void tie(int cell, int side, int other) {
            place(cell, CORD, side, 0);
            if (isCell(cell)) {
                others[cell] = other;
            }
        }

        void layBall(int cell) {
            if (isCell(cell)) {
                balls[cell] = true;
            }
        }

        void clear(int cell) {
            if (isCell(cell)) {
                place(cell, NO_PIECE, 0, 0);
                balls[cell] = false;
            }
        }

        /** A ball is moved off its track; a piece without a ball is moved whole. */
        void move(int cell, int to) {
            if (!isCell(cell) || !isCell(to)) {
                return;
            }
            if (balls[cell]) {
                balls[cell] = false;
                balls[to] = true;
                return;
            }
            int other = otherOf(cell);
            place(to, kinds[cell], as[cell], bs[cell]);
            others[to] = other;
            if (isCell(other)) {
                others[other] = to;
            }
            clear(cell);
        }

        boolean addStart(int cell, int side, int tick) {
            if (starts < 0 || starts >= MOST_STARTS) {
                return false;
            }
            startCells[starts] = cell;
            startSides[starts] = side;
            startTicks[starts] = tick;
            starts++;
            return true;
        }

        int countPieces() {
            int count = 0;
            for (int cell = 0; cell < CELLS; cell++) {
                count += kinds[cell] != NO_PIECE ? 1 : 0;
            }
            return count;
        }

        int countBells() {
            int count = 0;
            for (int cell = 0; cell < CELLS; cell++) {
                count += kinds[cell] == BELL ? 1 : 0;
            }
            return count;
        }

        int countBalls() {
            int count = 0;
            for (int cell = 0; cell < CELLS; cell++) {
                count += balls[cell] ? 1 : 0;
            }
            return count;
        }
    }

    /** A row of numbers of one sort. */
    private static final class Row {
        final int sort;
        final long[] elements;

        Row(int sort, int size) {
            this.sort = sort;
            this.elements = new long[size < 0 ? 0 : size];
        }

        int size() {
            return elements.length;
        }

        boolean holdsPart(int i, int n) {
            return i >= 0 && n >= 0 && n <= elements.length - i;
        }

        void change(int i, long v) {
            if (holdsPart(i, 1)) {
                elements[i] = lowestBits(v);
            }
        }

        long valueOf(int i) {
            return holdsPart(i, 1) ? elements[i] : 0;
        }

        int intOf(int i) {
            return (int) valueOf(i);
        }

        long lowestBits(long v) {
            switch (sort) {
                case BYTES: return (byte) v;
                case SHORTS: return (short) v;
                case INTS: return (int) v;
                default: return v;
            }
        }
    }

    /** Strikes that are set and not done yet: of each tick a chain, in the order in which they were set. */
    private static final class Calendar {
        final int[] firsts = new int[TICKS];
        final int[] lasts = new int[TICKS];
        final int[] nexts = new int[MOST_SET];
        // A place is 4 times a cell, and the side from which it is struck.
        final int[] places = new int[MOST_SET];
        final int[] causes = new int[MOST_SET];
        // Those of a domino, which go on over a gap.
        final boolean[] leaps = new boolean[MOST_SET];
        int size;
        int waiting;

        void empty() {
            for (int t = 0; t < TICKS; t++) {
                firsts[t] = NONE;
                lasts[t] = NONE;
            }
            size = 0;
            waiting = 0;
        }

        void add(int tick, int place, int cause, boolean leap) {
            // One for a tick that never comes still keeps the run from coming to rest.
            waiting++;
            if (tick < 0 || tick >= TICKS || size < 0 || size >= MOST_SET) {
                return;
            }
            places[size] = place;
            causes[size] = cause;
            leaps[size] = leap;
            nexts[size] = NONE;
            int last = lasts[tick];
            if (last >= 0 && last < size) {
                nexts[last] = size;
            } else {
                firsts[tick] = size;
            }
            lasts[tick] = size;
            size++;
        }

        int firstOf(int tick) {
            return tick >= 0 && tick < TICKS ? firsts[tick] : NONE;
        }

        boolean has(int i) {
            return i >= 0 && i < size && i < MOST_SET;
        }
    }

    /** Strikes that were done, by their numbers; beyond its room they are only counted. */
    private static final class Log {
        final int[] tick;
        final int[] place;
        final int[] cause;
        final int[] how;
        int count;

        Log(int room) {
            int length = room < 0 ? 0 : room;
            tick = new int[length];
            place = new int[length];
            cause = new int[length];
            how = new int[length];
        }

        boolean tells(int i) {
            return i >= 0 && i < count && i < tick.length;
        }

        boolean isSo(int i, int flag) {
            return tells(i) && (how[i] & flag) != 0;
        }

        void add(int when, int where, int by, int flags) {
            int i = count;
            count++;
            if (tells(i)) {
                tick[i] = when;
                place[i] = where;
                cause[i] = by;
                how[i] = flags;
            }
        }

        int firstRingOf(int cell) {
            for (int i = 0; i < count; i++) {
                if (isSo(i, RANG) && place[i] / SIDES == cell) {
                    return i;
                }
            }
            return NONE;
        }

        /** How many strikes stand before strike i in its row of causes; NONE if there is no strike i. */
        int causesOf(int i) {
            int steps = NONE;
            int at = i;
            for (int k = 0; k < MOST_STRIKES && tells(at); k++) {
                steps++;
                at = cause[at];
            }
            return steps;
        }

        /** The strike that stands so many steps before strike i in its row of causes, or NONE. */
        int causeBefore(int i, int steps) {
            if (steps < 0) {
                return NONE;
            }
            int at = i;
            for (int k = 0; k < steps && tells(at); k++) {
                at = cause[at];
            }
            return tells(at) ? at : NONE;
        }
    }

    /** The balls of a run, by their numbers. */
    private static final class Balls {
        final int[] numbers = new int[CELLS];
        final int[] cells = new int[CELLS];
        final int[] ways = new int[CELLS];
        final int[] steps = new int[CELLS];
        final int[] causes = new int[CELLS];
        final boolean[] due = new boolean[CELLS];
        int count;
        int rolling;
        int gone;

        void lay(Plan plan) {
            count = 0;
            rolling = 0;
            gone = 0;
            for (int cell = 0; cell < CELLS; cell++) {
                numbers[cell] = NONE;
                if (plan.hasBall(cell) && count < CELLS) {
                    numbers[cell] = count;
                    cells[count] = cell;
                    ways[count] = NONE;
                    count++;
                }
            }
        }

        boolean has(int ball) {
            return ball >= 0 && ball < count && ball < CELLS;
        }

        int numberIn(int cell) {
            return isCell(cell) ? numbers[cell] : NONE;
        }

        /** A ball that is struck in a tick rolls only as the next one comes. */
        void noteDue() {
            for (int ball = 0; ball < count && ball < CELLS; ball++) {
                due[ball] = ways[ball] != NONE;
            }
        }

        boolean isDue(int ball) {
            return has(ball) && due[ball] && ways[ball] != NONE;
        }

        void push(int ball, int way, int cause) {
            if (has(ball) && ways[ball] == NONE) {
                ways[ball] = way;
                steps[ball] = BALL_STEPS;
                causes[ball] = cause;
                rolling++;
            }
        }

        void lie(int ball) {
            if (has(ball) && ways[ball] != NONE) {
                ways[ball] = NONE;
                rolling--;
            }
        }

        void leave(int ball) {
            lie(ball);
            if (has(ball) && isCell(cells[ball])) {
                numbers[cells[ball]] = NONE;
                gone++;
            }
        }

        void enter(int ball, int cell, int way) {
            if (has(ball) && isCell(cell) && isCell(cells[ball])) {
                numbers[cells[ball]] = NONE;
                numbers[cell] = ball;
                cells[ball] = cell;
                ways[ball] = way;
                steps[ball]--;
                if (steps[ball] <= 0) {
                    lie(ball);
                }
            }
        }
    }

    /** A run of a plan, and how it ended. */
    private static final class Run {
        final Calendar calendar;
        final Log log;
        final Balls balls = new Balls();
        final int[] hits = new int[CELLS];
        final int[] rings = new int[CELLS];
        final int[] firstRing = new int[CELLS];
        // A domino that is down, or a gate that is open.
        final boolean[] changed = new boolean[CELLS];
        final boolean[] lostOn = new boolean[CELLS];
        Plan plan;
        int tick;
        int end;
        int lost;
        int rang;

        Run(Plan plan, Calendar calendar, Log log) {
            this.plan = plan;
            this.calendar = calendar;
            this.log = log;
        }

        /** Whether the wish is met; the run stops as soon as that is known. A run without a bell goes to its end. */
        boolean play(Plan played, int bell, int wished) {
            begin(played);
            for (int t = 0; t < TICKS; t++) {
                tick = t;
                balls.noteDue();
                doStrikesSet();
                rollBalls();
                if (isOver() || isKnown(bell, wished)) {
                    break;
                }
            }
            return meets(bell, wished);
        }

        boolean meets(int bell, int wished) {
            if (!isCell(bell) || firstRing[bell] == NONE) {
                return false;
            }
            return wished == NONE || wished == firstRing[bell];
        }

        private void begin(Plan played) {
            plan = played;
            end = OUT_OF_TICKS;
            lost = 0;
            rang = 0;
            log.count = 0;
            balls.lay(played);
            for (int cell = 0; cell < CELLS; cell++) {
                hits[cell] = 0;
                rings[cell] = 0;
                firstRing[cell] = NONE;
                changed[cell] = false;
                lostOn[cell] = false;
            }
            calendar.empty();
            for (int i = 0; i < played.starts && i < MOST_STARTS; i++) {
                int place = played.startCells[i] * SIDES + played.startSides[i];
                calendar.add(played.startTicks[i], place, NONE, false);
            }
        }

        private boolean isOver() {
            if (log.count >= MOST_STRIKES) {
                end = OUT_OF_STRIKES;
                return true;
            }
            if (calendar.waiting == 0 && balls.rolling == 0) {
                end = AT_REST;
                return true;
            }
            return false;
        }

        private boolean isKnown(int bell, int wished) {
            if (!isCell(bell)) {
                return false;
            }
            return firstRing[bell] != NONE || wished != NONE && wished <= tick;
        }

        private void doStrikesSet() {
            int set = calendar.firstOf(tick);
            for (int i = 0; i < MOST_SET && calendar.has(set) && log.count < MOST_STRIKES; i++) {
                calendar.waiting--;
                int side = calendar.places[set] % SIDES;
                int cell = landing(calendar.places[set] / SIDES, side, calendar.leaps[set]);
                int number = note(cell, side, calendar.causes[set], 0);
                work(cell, side, number);
                set = calendar.nexts[set];
            }
        }

        private int landing(int cell, int side, boolean leaps) {
            if (!leaps || !isVoid(cell)) {
                return cell;
            }
            int behind = beside(cell, opposite(side));
            return behind == NONE || isVoid(behind) ? cell : behind;
        }

        private boolean isVoid(int cell) {
            return isCell(cell) && plan.kinds[cell] == NO_PIECE && balls.numbers[cell] == NONE;
        }

        private void rollBalls() {
            for (int ball = 0; ball < balls.count && log.count < MOST_STRIKES; ball++) {
                if (balls.isDue(ball)) {
                    int way = balls.ways[ball];
                    int to = beside(balls.cells[ball], way);
                    if (to == NONE) {
                        balls.leave(ball);
                    } else if (isOpen(to, opposite(way))) {
                        balls.enter(ball, to, wayOn(to, way));
                    } else {
                        balls.lie(ball);
                        int number = note(to, opposite(way), balls.causes[ball], BY_BALL);
                        work(to, opposite(way), number);
                    }
                }
            }
        }

        private boolean isOpen(int cell, int from) {
            if (!isCell(cell) || balls.numberIn(cell) != NONE) {
                return false;
            }
            switch (plan.kindOf(cell)) {
                case NO_PIECE: return true;
                case GATE: return changed[cell];
                case TRACK: return plan.isEnd(cell, from);
                default: return false;
            }
        }

        private int wayOn(int cell, int way) {
            if (plan.kindOf(cell) != TRACK) {
                return way;
            }
            for (int side = 0; side < SIDES; side++) {
                if (side != opposite(way) && plan.isEnd(cell, side)) {
                    return side;
                }
            }
            return way;
        }

        /** Tells the strike's number, which is the cause of all that comes of it. */
        private int note(int cell, int side, int cause, int flags) {
            int number = log.count;
            int how = flags;
            if (isCell(cell)) {
                hits[cell]++;
                if (isVoid(cell)) {
                    how |= LOST;
                    lostOn[cell] = true;
                    lost++;
                }
                if (plan.kindOf(cell) == BELL) {
                    how |= RANG;
                    rings[cell]++;
                    rang++;
                    if (firstRing[cell] == NONE) {
                        firstRing[cell] = tick;
                    }
                }
            }
            log.add(tick, cell * SIDES + side, cause, how);
            return number;
        }

        private void work(int cell, int side, int number) {
            int ball = balls.numberIn(cell);
            if (!isCell(cell)) {
                return;
            }
            if (ball != NONE) {
                boolean held = plan.kindOf(cell) == TRACK && !plan.isEnd(cell, opposite(side));
                if (!held) {
                    balls.push(ball, opposite(side), number);
                }
                return;
            }
            int a = plan.aOf(cell);
            switch (plan.kindOf(cell)) {
                case DOMINO:
                    if (!changed[cell] && side % 2 == a) {
                        changed[cell] = true;
                        setStrike(2, cell, opposite(side), number, true);
                    }
                    break;
                case LEVER:
                    if (side != a) {
                        setStrike(1, cell, a, number, false);
                    }
                    break;
                case CORD:
                    int other = plan.otherOf(cell);
                    if (isCell(other) && hits[cell] == 1 && hits[other] == 0) {
                        setStrike(1, other, plan.aOf(other), number, false);
                    }
                    break;
                case TIMER:
                    if (hits[cell] == 1) {
                        setStrike(plan.bOf(cell), cell, a, number, false);
                    }
                    break;
                case SPLIT:
                    for (int way = 0; way < SIDES && hits[cell] == 1; way++) {
                        if (way != side) {
                            setStrike(1, cell, way, number, false);
                        }
                    }
                    break;
                case BUCKET:
                    if (hits[cell] == plan.bOf(cell)) {
                        setStrike(1, cell, a, number, false);
                    }
                    break;
                case GATE:
                    changed[cell] = true;
                    break;
                default:
                    break;
            }
        }

        private void setStrike(int ticks, int cell, int way, int cause, boolean leaps) {
            int to = beside(cell, way);
            if (to != NONE) {
                calendar.add(tick + ticks, to * SIDES + opposite(way), cause, leaps);
            }
        }
    }
}
