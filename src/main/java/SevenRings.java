/**
 * Where an aeroplane ended that only answered once an hour: all WAYS that RINGS, TONES and FUEL
 * let, weighed; PIECES that drifted; CELLS that were dragged; ODDS by all of it, exactly.
 */
public final class SevenRings {
    public static final int BAD = -1, NOT = -2, FULL = -3, NONE = -4, NULL = -11, CAST = -12, INDEX = -13, SIZE = -14;

    private static final int CELLS = 100, SIDE = 10, COURSES = 8, PACES = 3, SEASONS = 2, MONTHS = 24;
    private static final int HOURS = 6, FARTHEST = 40, UNTOLD = -1, TO = 1, FROM = 2;
    private static final int STILL = 8, WARMEST = 9, DEEPEST = 9, BEYOND = -1;
    private static final int PIECES = 4, DRAGS = 4, EIGHTHS = 8;
    private static final int SHEETS = 4, LANES = 3, ITEMS = 16;

    /** Places of what is set. */
    private static final int EYE = 0, START = 1, LAST = 2, TURNS = 3, SLOWS = 4, FUEL = 5, GLIDE = 6, WIND = 7;
    private static final int SETTINGS = 8;
    private static final int[] LEAST_SET = {0, 0, 1, 0, 0, 0, 0, 0};
    private static final int[] MOST_SET = {99, 99, 6, 2, 1, 60, 3, 8};

    /** ASSUMPTIONS: the RINGS of HOURS come first. */
    private static final int ALL_TONES = 6, NO_FUEL = 7, FIRST_PIECE = 8, ALL_DRAGS = 12, ASSUMPTIONS = 13, NOTHING = -1;

    /** What a COURSE adds to ROW and COLUMN. */
    private static final int[] DOWN = {-1, -1, 0, 1, 1, 1, 0, -1};
    private static final int[] RIGHT = {0, 1, 1, 1, 0, -1, -1, -1};

    private final Told told = new Told();
    private final Told kept = new Told();
    private final Walk walk = new Walk();
    private final Walk trial = new Walk();
    private final Sea seas = new Sea(told);
    private final Ends ends = new Ends(told, seas);
    private final Ends otherEnds = new Ends(told, seas);
    private final Tape tape = new Tape();
    private final Sheet[] sheets = new Sheet[SHEETS];
    private boolean hasImage = false;
    private boolean walkIsOld = true;
    private boolean endsAreOld = true;

    public SevenRings() {
        for (int i = 0; i < SHEETS; i++) {
            sheets[i] = new Sheet();
        }
    }

    // ---- 1 rings, ways

    public int set(int what, int v) {
        if (!within(what, 0, SETTINGS - 1) || !within(v, LEAST_SET[what], MOST_SET[what])) {
            return BAD;
        }
        int was = told.settings[what];
        told.settings[what] = v;
        if (what == EYE) {
            told.look();
        }
        if (what == WIND) {
            seaChanged();
        } else {
            waysChanged();
        }
        return was;
    }

    public int far(int cell) {
        return isCell(cell) ? told.fars[cell] : BAD;
    }

    public int ring(int hour, int what, int v) {
        if (!within(hour, 1, HOURS) || !within(what, 0, 1)) {
            return BAD;
        }
        if (what == 0 ? !within(v, UNTOLD, FARTHEST) : !within(v, 0, FROM)) {
            return BAD;
        }
        int[] row = what == 0 ? told.howFar : told.tones;
        int was = row[hour];
        row[hour] = v;
        waysChanged();
        return 100 + was;
    }

    public int type(long w, int n) {
        return tape.add(w, n);
    }

    public int rings() {
        int answer = tape.readRings(told.howFar, told.tones);
        tape.empty();
        waysChanged();
        return answer;
    }

    public int ways() {
        return walked().count;
    }

    public long weight() {
        return walked().weightSum;
    }

    public int way(int i, int hour) {
        if (i < 0 || !within(hour, -3, told.settings[LAST])) {
            return BAD;
        }
        Walk all = walked();
        if (!all.find(i)) {
            return NONE;
        }
        switch (hour) {
            case -1:
                return all.foundWeight;
            case -2:
                return all.foundTurns;
            case -3:
                return all.foundSlowed;
            default:
                return all.cellAt[hour];
        }
    }

    public int may(int hour, int row) {
        if (!within(hour, 0, told.settings[LAST]) || !within(row, 0, SIDE - 1)) {
            return BAD;
        }
        return walked().seen[SIDE * hour + row];
    }

    // ---- 2 the end, pieces, drags

    public int sea(int season, int row) {
        if (!within(season, 0, SEASONS - 1) || !within(row, 0, SIDE - 1)) {
            return BAD;
        }
        int answer = tape.readSea(told.currents, CELLS * season + SIDE * row);
        tape.empty();
        seaChanged();
        return answer;
    }

    public int cell(int season, int cell, int what, int v) {
        if (!within(season, 0, SEASONS - 1) || !isCell(cell) || !within(what, 0, 1)) {
            return BAD;
        }
        if (!within(v, 0, what == 0 ? STILL : WARMEST)) {
            return BAD;
        }
        int[] row = what == 0 ? told.currents : told.warmths;
        int was = row[CELLS * season + cell];
        row[CELLS * season + cell] = v;
        seaChanged();
        return was;
    }

    public int depth(int cell, int v) {
        if (!isCell(cell) || !within(v, 1, DEEPEST)) {
            return BAD;
        }
        int was = told.depths[cell];
        told.depths[cell] = v;
        return was;
    }

    public int piece(int cell, int n, int high, int age, int need) {
        if (!isCell(cell) || !within(n, 1, MONTHS) || !within(high, 0, 1)) {
            return BAD;
        }
        if (!within(age, 0, n) || !within(need, 0, WARMEST)) {
            return BAD;
        }
        int number = told.pieceCount;
        if (number >= PIECES) {
            return FULL;
        }
        told.pieceCells[number] = cell;
        told.pieceMonths[number] = n;
        told.pieceHighs[number] = high;
        told.pieceAges[number] = age;
        told.pieceNeeds[number] = need;
        told.pieceCount = number + 1;
        seaChanged();
        return number;
    }

    public int drift(int cell, int n, int high) {
        if (!isCell(cell) || !within(n, 0, MONTHS) || !within(high, 0, 1)) {
            return BAD;
        }
        return seas.behind(cell, n, high);
    }

    public int fits(int piece, int cell) {
        if (!isPiece(piece) || !isCell(cell)) {
            return BAD;
        }
        return seas.fit(piece, cell);
    }

    public int drag(int cell, int eighths) {
        if (!isCell(cell) || !within(eighths, 1, EIGHTHS - 1)) {
            return BAD;
        }
        int number = told.dragCount;
        if (number >= DRAGS) {
            return FULL;
        }
        told.dragCells[number] = cell;
        told.dragEighths[number] = eighths;
        told.dragCount = number + 1;
        endsAreOld = true;
        return number;
    }

    public long odds(int cell, int part) {
        if (!isCell(cell) || !within(part, 0, 1)) {
            return BAD;
        }
        Ends now = weighed();
        return partOf(now.sums[cell], now.total, part);
    }

    public int where(int row) {
        if (!within(row, 0, SIDE - 1)) {
            return BAD;
        }
        long[] sums = weighed().sums;
        int columns = 0;
        for (int column = 0; column < SIDE; column++) {
            if (sums[SIDE * row + column] > 0) {
                columns |= 1 << column;
            }
        }
        return columns;
    }

    public int count(int what) {
        switch (what) {
            case 0:
                return howManyAbove(told.howFar, UNTOLD);
            case 1:
                return howManyAbove(told.tones, 0);
            case 2:
                return told.pieceCount;
            case 3:
                return told.dragCount;
            case 4:
                return howManyGreater(weighed().sums, 0);
            default:
                return BAD;
        }
    }

    public int clear() {
        int gone = told.pieceCount + told.dragCount;
        told.pieceCount = 0;
        told.dragCount = 0;
        seaChanged();
        return gone;
    }

    // ---- 3 what moves, where next

    public int moves(int assumption) {
        if (!within(assumption, 0, ASSUMPTIONS - 1)) {
            return BAD;
        }
        return movedBy(assumption, weighed());
    }

    public int most() {
        Ends now = weighed();
        int best = 0;
        int bestBy = -1;
        for (int assumption = 0; assumption < ASSUMPTIONS; assumption++) {
            int by = movedBy(assumption, now);
            if (by > bestBy) {
                best = assumption;
                bestBy = by;
            }
        }
        return best;
    }

    public int next() {
        long[] sums = weighed().sums;
        int best = NONE;
        for (int cell = 0; cell < CELLS; cell++) {
            if (sums[cell] <= 0 || told.isDragged(cell)) {
                continue;
            }
            // Fractions are held against each other crosswise: no division cuts them.
            if (best < 0 || sums[cell] * told.depths[best] > sums[best] * told.depths[cell]) {
                best = cell;
            }
        }
        return best;
    }

    public long should(int cell, int n, int high, int part) {
        if (!isCell(cell) || !within(n, 0, MONTHS) || !within(high, 0, 1) || !within(part, 0, 1)) {
            return BAD;
        }
        Ends now = weighed();
        long there = 0;
        for (int end = 0; end < CELLS; end++) {
            if (now.sums[end] > 0 && seas.behind(end, n, high) == cell) {
                there += now.sums[end];
            }
        }
        return partOf(there, now.total, part);
    }

    public int held(int sheet, int lane, int i) {
        int items = told.settings[LAST] + 1;
        int wrong = wrongRow(sheet, lane, i, items);
        if (wrong < 0) {
            return wrong;
        }
        Sheet flight = sheets[sheet];
        int endedIn = flight.at(i + items - 1);
        trial.begin(told);
        trial.leaveOutRings();
        trial.keepTo(flight, i);
        trial.goAll();
        if (trial.count == 0 || !isCell(endedIn)) {
            return NOT;
        }
        trial.begin(told);
        trial.takeRingsOf(flight, i);
        trial.goAll();
        return howManyGreater(trial.ends, trial.ends[endedIn]);
    }

    public int image() {
        kept.take(told);
        hasImage = true;
        return 1;
    }

    public int restore() {
        if (!hasImage) {
            return NONE;
        }
        told.take(kept);
        waysChanged();
        seaChanged();
        return 1;
    }

    // ---- 4 sheets

    public int sheet(int sheet, int lane, int n) {
        if (!isSheet(sheet) || !isLane(lane) || n > ITEMS) {
            return BAD;
        }
        if (n < 0) {
            return SIZE;
        }
        sheets[sheet].hold(lane, n);
        return n;
    }

    public int drop(int sheet) {
        if (!isSheet(sheet)) {
            return BAD;
        }
        Sheet s = sheets[sheet];
        if (s.isNothing()) {
            return NULL;
        }
        int had = s.size;
        s.holdNothing();
        return had;
    }

    public int item(int sheet, int lane, int i, int v) {
        int wrong = wrongRow(sheet, lane, i, 1);
        if (wrong < 0) {
            return wrong;
        }
        sheets[sheet].put(i, v);
        return 1;
    }

    public int film(int k, int sheet, int lane, int i) {
        if (k < 0) {
            return BAD;
        }
        int items = told.settings[LAST] + 1;
        int wrong = wrongRow(sheet, lane, i, items);
        if (wrong < 0) {
            return wrong;
        }
        Walk all = walked();
        if (!all.find(k)) {
            return NOT;
        }
        for (int hour = 0; hour < items; hour++) {
            sheets[sheet].put(i + hour, all.cellAt[hour]);
        }
        return items;
    }

    public int copy(int from, int i, int to, int j, int n) {
        if (!isSheet(from) || !isSheet(to)) {
            return BAD;
        }
        Sheet source = sheets[from];
        Sheet target = sheets[to];
        if (source.isNothing() || target.isNothing()) {
            return NULL;
        }
        if (source.lane != target.lane) {
            return CAST;
        }
        if (!source.has(i, n) || !target.has(j, n)) {
            return INDEX;
        }
        System.arraycopy(source.items, i, target.items, j, n);
        return n;
    }

    // ---- what several calls use

    private static boolean within(int v, int least, int most) {
        return v >= least && v <= most;
    }

    private static boolean isCell(int cell) {
        return cell >= 0 && cell < CELLS;
    }

    private static boolean isSheet(int sheet) {
        return sheet >= 0 && sheet < SHEETS;
    }

    private static boolean isLane(int lane) {
        return lane >= 0 && lane < LANES;
    }

    /** The CELL that lies so many steps by a COURSE from a CELL, or BEYOND. */
    private static int ahead(int cell, int course, int steps) {
        if (cell < 0 || cell >= CELLS || course < 0 || course >= COURSES) {
            return BEYOND;
        }
        int row = cell / SIDE + steps * DOWN[course];
        int column = cell % SIDE + steps * RIGHT[course];
        boolean inside = row >= 0 && row < SIDE && column >= 0 && column < SIDE;
        return inside ? SIDE * row + column : BEYOND;
    }

    /** What is wrong with a SHEET that is taken as a row of a LANE with n items from i on, or 0. */
    private int wrongRow(int sheet, int lane, int i, int n) {
        if (!isSheet(sheet) || !isLane(lane)) {
            return BAD;
        }
        Sheet s = sheets[sheet];
        if (s.isNothing()) {
            return NULL;
        }
        if (s.lane != lane) {
            return CAST;
        }
        return s.has(i, n) ? 0 : INDEX;
    }

    private void waysChanged() {
        walkIsOld = true;
        endsAreOld = true;
    }

    private void seaChanged() {
        seas.forget();
        endsAreOld = true;
    }

    /** All WAYS as they are now. */
    private Walk walked() {
        if (walkIsOld) {
            walk.begin(told);
            walk.goAll();
            walkIsOld = false;
        }
        return walk;
    }

    /** What CELLS have now. */
    private Ends weighed() {
        Walk all = walked();
        if (endsAreOld) {
            ends.weigh(all.ends, NOTHING);
            endsAreOld = false;
        }
        return ends;
    }

    private boolean isPiece(int piece) {
        return piece >= 0 && piece < told.pieceCount;
    }

    /** By how much an ASSUMPTION MOVES what CELLS have now; below 0 for a PIECE that is not there. */
    private int movedBy(int assumption, Ends now) {
        if (assumption >= ALL_DRAGS || isPiece(assumption - FIRST_PIECE)) {
            // WAYS are the same without a PIECE or DRAGS.
            otherEnds.weigh(walk.ends, assumption);
            return now.apart(otherEnds);
        }
        if (assumption >= FIRST_PIECE) {
            return BAD;
        }
        trial.begin(told);
        if (!trial.leaveOut(assumption)) {
            return 0;
        }
        trial.goAll();
        otherEnds.weigh(trial.ends, NOTHING);
        return now.apart(otherEnds);
    }

    private static int howManyAbove(int[] row, int bound) {
        int n = 0;
        for (int v : row) {
            n += v > bound ? 1 : 0;
        }
        return n;
    }

    private static int howManyGreater(long[] row, long bound) {
        int n = 0;
        for (long v : row) {
            n += v > bound ? 1 : 0;
        }
        return n;
    }

    /** The upper or lower part of a fraction in lowest terms. */
    private static long partOf(long above, long below, int part) {
        if (below <= 0) {
            return NONE;
        }
        long common = greatestCommon(above, below);
        if (common <= 0) {
            return NONE;
        }
        return (part == 0 ? above : below) / common;
    }

    private static long greatestCommon(long a, long b) {
        // Each two rounds at least halve what is left, so 63 bits end long ahead of this bound.
        for (int round = 0; round < 200 && b != 0; round++) {
            long left = a % b;
            a = b;
            b = left;
        }
        return a;
    }

    /** What an IMAGE keeps: all that was told but for SHEETS and THE TAPE. */
    private static final class Told {
        final int[] settings = {0, 0, HOURS, 1, 0, 60, 1, STILL};
        final int[] howFar = new int[HOURS + 1];
        final int[] tones = new int[HOURS + 1];
        final int[] currents = new int[SEASONS * CELLS];
        final int[] warmths = new int[SEASONS * CELLS];
        final int[] depths = new int[CELLS];
        /** How FAR each CELL is: the eye seldom moves, WAYS ask it often. */
        final int[] fars = new int[CELLS];
        final int[] pieceCells = new int[PIECES];
        final int[] pieceMonths = new int[PIECES];
        final int[] pieceHighs = new int[PIECES];
        final int[] pieceAges = new int[PIECES];
        final int[] pieceNeeds = new int[PIECES];
        final int[] dragCells = new int[DRAGS];
        final int[] dragEighths = new int[DRAGS];
        int pieceCount = 0;
        int dragCount = 0;

        Told() {
            for (int hour = 0; hour <= HOURS; hour++) {
                howFar[hour] = UNTOLD;
            }
            for (int i = 0; i < SEASONS * CELLS; i++) {
                currents[i] = STILL;
            }
            for (int cell = 0; cell < CELLS; cell++) {
                depths[cell] = 1;
            }
            look();
        }

        void take(Told other) {
            System.arraycopy(other.settings, 0, settings, 0, SETTINGS);
            System.arraycopy(other.howFar, 0, howFar, 0, HOURS + 1);
            System.arraycopy(other.tones, 0, tones, 0, HOURS + 1);
            System.arraycopy(other.currents, 0, currents, 0, SEASONS * CELLS);
            System.arraycopy(other.warmths, 0, warmths, 0, SEASONS * CELLS);
            System.arraycopy(other.depths, 0, depths, 0, CELLS);
            System.arraycopy(other.fars, 0, fars, 0, CELLS);
            System.arraycopy(other.pieceCells, 0, pieceCells, 0, PIECES);
            System.arraycopy(other.pieceMonths, 0, pieceMonths, 0, PIECES);
            System.arraycopy(other.pieceHighs, 0, pieceHighs, 0, PIECES);
            System.arraycopy(other.pieceAges, 0, pieceAges, 0, PIECES);
            System.arraycopy(other.pieceNeeds, 0, pieceNeeds, 0, PIECES);
            System.arraycopy(other.dragCells, 0, dragCells, 0, DRAGS);
            System.arraycopy(other.dragEighths, 0, dragEighths, 0, DRAGS);
            pieceCount = other.pieceCount;
            dragCount = other.dragCount;
        }

        /** Looks from THE EYE how FAR each CELL is. */
        void look() {
            int eye = settings[EYE];
            for (int cell = 0; cell < CELLS; cell++) {
                int rows = cell / SIDE - eye / SIDE;
                int columns = cell % SIDE - eye % SIDE;
                fars[cell] = wholeRoot(4 * (rows * rows + columns * columns));
            }
        }

        private static int wholeRoot(int square) {
            int root = 0;
            while (root < CELLS && (root + 1) * (root + 1) <= square) {
                root++;
            }
            return root;
        }

        boolean isDragged(int cell) {
            for (int i = 0; i < dragCount && i < DRAGS; i++) {
                if (dragCells[i] == cell) {
                    return true;
                }
            }
            return false;
        }

        /** What all DRAGS let of a CELL: 8 for each, less what was seen there. */
        long missed(int cell) {
            long product = 1;
            for (int i = 0; i < dragCount && i < DRAGS; i++) {
                product *= dragCells[i] == cell ? EIGHTHS - dragEighths[i] : EIGHTHS;
            }
            return product;
        }
    }

    /** Goes all WAYS in their order, by what it was given at its beginning. */
    private static final class Walk {
        private static final int COUNTING = -1, FOUND = -2;
        /** Rows by HOUR: what RINGS tell, and the only CELL that a WAY may be in (BEYOND: any). */
        private final int[] howFar = new int[HOURS + 1];
        private final int[] tones = new int[HOURS + 1];
        private final int[] only = new int[HOURS + 1];
        private final int[] fars = new int[CELLS];
        private int last = 1;
        private int turnsLet = 0;
        private boolean slowsLet = false;
        private int fuel = 0;
        private int glide = 0;

        final int[] cellAt = new int[HOURS + 1];
        final long[] ends = new long[CELLS];
        /** Sets of COLUMNS by HOUR and ROW. */
        final int[] seen = new int[SIDE * (HOURS + 1)];
        /** How many WAYS begin with each COURSE and PACE, so that one of them is found sooner. */
        private final int[] begun = new int[COURSES * PACES];
        int count = 0;
        long weightSum = 0;

        /** How many WAYS are to be passed ahead of the one that is looked for. */
        private int toPass = COUNTING;
        private int foundNumber = -1;
        int foundWeight = 0;
        int foundTurns = 0;
        int foundSlowed = 0;

        void begin(Told told) {
            System.arraycopy(told.howFar, 0, howFar, 0, HOURS + 1);
            System.arraycopy(told.tones, 0, tones, 0, HOURS + 1);
            System.arraycopy(told.fars, 0, fars, 0, CELLS);
            for (int hour = 0; hour <= HOURS; hour++) {
                only[hour] = BEYOND;
            }
            cellAt[0] = told.settings[START];
            last = told.settings[LAST];
            turnsLet = told.settings[TURNS];
            slowsLet = told.settings[SLOWS] == 1;
            fuel = told.settings[FUEL];
            glide = told.settings[GLIDE];
        }

        void leaveOutRings() {
            for (int hour = 0; hour <= HOURS; hour++) {
                howFar[hour] = UNTOLD;
                tones[hour] = 0;
            }
        }

        /** Lets only the WAY that goes by the CELLS of a flight. */
        void keepTo(Sheet flight, int from) {
            for (int hour = 0; hour <= last && hour <= HOURS; hour++) {
                // No WAY is ever in a CELL that is none, so a number beyond CELLS keeps all out.
                int cell = flight.at(from + hour);
                only[hour] = isCell(cell) ? cell : CELLS;
            }
        }

        /** RINGS become how FAR the CELLS of a flight are, without TONES. */
        void takeRingsOf(Sheet flight, int from) {
            leaveOutRings();
            for (int hour = 1; hour <= last && hour <= HOURS; hour++) {
                int cell = flight.at(from + hour);
                howFar[hour] = isCell(cell) ? fars[cell] : UNTOLD;
            }
        }

        /** Leaves out a RING, all TONES or FUEL: whether WAYS can be others by it. */
        boolean leaveOut(int assumption) {
            if (assumption == NO_FUEL) {
                boolean mayLack = fuel < PACES * PACES * last;
                fuel = PACES * PACES * HOURS;
                return mayLack;
            }
            boolean changes = false;
            for (int hour = 1; hour <= HOURS; hour++) {
                boolean ofRing = assumption == hour - 1;
                if (ofRing || assumption == ALL_TONES) {
                    changes |= hour <= last && (tones[hour] != 0 || ofRing && howFar[hour] != UNTOLD);
                    tones[hour] = 0;
                }
                if (ofRing) {
                    howFar[hour] = UNTOLD;
                }
            }
            return changes;
        }

        /** Counts and weighs all WAYS. */
        void goAll() {
            count = 0;
            weightSum = 0;
            toPass = COUNTING;
            foundNumber = -1;
            for (int cell = 0; cell < CELLS; cell++) {
                ends[cell] = 0;
            }
            for (int i = 0; i < SIDE * (HOURS + 1); i++) {
                seen[i] = 0;
            }
            for (int first = 0; first < COURSES * PACES; first++) {
                int before = count;
                fly(0, first / PACES, first % PACES + 1, 0, 0, 1, fuel);
                begun[first] = count - before;
            }
            if (count > 0) {
                see(0, cellAt[0]);
            }
        }

        /** Brings the WAY of a number to the rows and fields of what was found: whether there is one. */
        boolean find(int number) {
            if (number < 0 || number >= count) {
                return false;
            }
            if (number == foundNumber) {
                return true;
            }
            int toCome = number;
            foundNumber = -1;
            for (int first = 0; first < COURSES * PACES; first++) {
                if (toCome < begun[first]) {
                    toPass = toCome;
                    fly(0, first / PACES, first % PACES + 1, 0, 0, 1, fuel);
                    foundNumber = number;
                    return true;
                }
                toCome -= begun[first];
            }
            return false;
        }

        /** Goes from an HOUR to the next, then on; has is what RINGS gave up to here. */
        private void fly(int hour, int course, int pace, int turns, int slowed, int has, int fuelHad) {
            int fuelLeft = fuelHad - pace * pace;
            if (hour < 0 || hour >= last || hour >= HOURS || fuelLeft < 0) {
                return;
            }
            int from = cellAt[hour];
            int to = ahead(from, course, pace);
            if (to == BEYOND || !isCell(from) || !isLet(hour, from) || !isLet(hour + 1, to)) {
                return;
            }
            int hasNow = has * ringGives(hour + 1, fars[from], fars[to]);
            if (hasNow == 0) {
                return;
            }
            cellAt[hour + 1] = to;
            int before = count;
            if (hour + 1 == last) {
                arrive(course, turns, slowed, hasNow);
            } else {
                choose(hour + 1, course, pace, turns, slowed, hasNow, fuelLeft);
            }
            if (count > before) {
                see(hour + 1, to);
            }
        }

        /** All that can be done at an HOUR, in the order of WAYS. */
        private void choose(int hour, int course, int pace, int turns, int slowed, int has, int fuelHad) {
            boolean maySlow = slowsLet && slowed == 0 && pace > 1;
            fly(hour, course, pace, turns, slowed, has, fuelHad);
            if (maySlow && !isFound()) {
                fly(hour, course, pace - 1, turns, 1, has, fuelHad);
            }
            if (turns >= turnsLet) {
                return;
            }
            for (int other = 0; other < COURSES && !isFound(); other++) {
                if (other == course) {
                    continue;
                }
                fly(hour, other, pace, turns + 1, slowed, has, fuelHad);
                if (maySlow && !isFound()) {
                    fly(hour, other, pace - 1, turns + 1, 1, has, fuelHad);
                }
            }
        }

        /** At the last HOUR: the WAY is passed, is the one that was looked for, or is counted with its ENDS. */
        private void arrive(int course, int turns, int slowed, int has) {
            int weight = (32 >> (2 * turns + slowed)) * has;
            if (toPass > 0) {
                toPass--;
                return;
            }
            if (toPass == 0) {
                toPass = FOUND;
                foundWeight = weight;
                foundTurns = turns;
                foundSlowed = slowed;
                return;
            }
            count++;
            weightSum += weight;
            for (int more = 0; more <= glide; more++) {
                int cell = ahead(cellAt[last], course, more);
                if (cell != BEYOND) {
                    ends[cell] += more == 0 ? 2 * weight : weight;
                }
            }
        }

        private void see(int hour, int cell) {
            seen[SIDE * hour + cell / SIDE] |= 1 << cell % SIDE;
        }

        private boolean isLet(int hour, int cell) {
            return only[hour] == BEYOND || only[hour] == cell;
        }

        private boolean isFound() {
            return toPass == FOUND;
        }

        /** What a WAY has for the RING of an HOUR; without one, what it had. */
        private int ringGives(int hour, int farBefore, int farNow) {
            int tone = tones[hour];
            if (tone == TO && farNow >= farBefore || tone == FROM && farNow <= farBefore) {
                return 0;
            }
            if (howFar[hour] == UNTOLD) {
                return 1;
            }
            int off = Math.abs(farNow - howFar[hour]);
            return off == 0 ? 2 : off == 1 ? 1 : 0;
        }
    }

    /** How PIECES drift, and what they FIT. */
    private static final class Sea {
        private static final int UNKNOWN = -1;
        private final Told told;
        /** What each PIECE FITS from each CELL, as far as it was reckoned: ODDS ask it again and again. */
        private final int[] known = new int[PIECES * CELLS];

        Sea(Told told) {
            this.told = told;
            forget();
        }

        void forget() {
            for (int i = 0; i < PIECES * CELLS; i++) {
                known[i] = UNKNOWN;
            }
        }

        /** Where a PIECE is behind so many MONTHS. */
        int behind(int cell, int months, int high) {
            int at = cell;
            for (int month = 0; month < months; month++) {
                at = monthOn(at, month, high);
            }
            return at;
        }

        int fit(int piece, int cell) {
            int i = CELLS * piece + cell;
            if (known[i] == UNKNOWN) {
                known[i] = reckon(piece, cell);
            }
            return known[i];
        }

        private int reckon(int piece, int cell) {
            int months = told.pieceMonths[piece];
            int needsFrom = months - told.pieceAges[piece];
            int at = cell;
            for (int month = 0; month < months; month++) {
                if (month >= needsFrom && told.warmths[inSeason(month, at)] < told.pieceNeeds[piece]) {
                    return 0;
                }
                at = monthOn(at, month, told.pieceHighs[piece]);
            }
            int found = told.pieceCells[piece];
            return at == found ? 4 : isBeside(at, found) ? 1 : 0;
        }

        private int monthOn(int cell, int month, int high) {
            int byCurrent = ahead(cell, told.currents[inSeason(month, cell)], 1);
            int at = byCurrent == BEYOND ? cell : byCurrent;
            int byWind = high == 1 ? ahead(at, told.settings[WIND], 1) : BEYOND;
            return byWind == BEYOND ? at : byWind;
        }

        private static int inSeason(int month, int cell) {
            return CELLS * (month % SEASONS) + cell;
        }

        private static boolean isBeside(int cell, int other) {
            int rows = Math.abs(cell / SIDE - other / SIDE);
            int columns = Math.abs(cell % SIDE - other % SIDE);
            return Math.max(rows, columns) == 1;
        }
    }

    /** What each CELL has of all that THE END can be, and all CELLS together: ODDS not yet divided. */
    private static final class Ends {
        private final Told told;
        private final Sea seas;
        final long[] sums = new long[CELLS];
        long total = 0;

        Ends(Told told, Sea seas) {
            this.told = told;
            this.seas = seas;
        }

        /** Weighs what WAYS have by PIECES and DRAGS, without an ASSUMPTION (or NOTHING). */
        void weigh(long[] ofWays, int without) {
            total = 0;
            for (int cell = 0; cell < CELLS && cell < ofWays.length; cell++) {
                long sum = ofWays[cell];
                if (sum != 0 && without != ALL_DRAGS) {
                    sum *= told.missed(cell);
                }
                for (int piece = 0; piece < told.pieceCount && sum != 0; piece++) {
                    sum *= piece == without - FIRST_PIECE ? 1 : seas.fit(piece, cell);
                }
                sums[cell] = sum;
                total += sum;
            }
        }

        /** By how many thousandths ODDS of CELLS differ from others. */
        int apart(Ends other) {
            if (total == 0 || other.total == 0) {
                return total == other.total ? 0 : 1000;
            }
            int sum = 0;
            for (int cell = 0; cell < CELLS; cell++) {
                sum += Math.abs(thousandths(cell) - other.thousandths(cell));
            }
            return sum;
        }

        private int thousandths(int cell) {
            return total == 0 ? 0 : (int) (1000 * sums[cell] / total);
        }
    }

    /** THE TAPE, and how its TEXT is read. */
    private static final class Tape {
        private static final int MOST_BYTES = 60, FAULT = -20, UNSAID = -2, NO_NUMBER = -1;
        private final int[] bytes = new int[MOST_BYTES];
        private int length = 0;
        private int place = 0;
        private final int[] newFar = new int[HOURS + 1];
        private final int[] newTones = new int[HOURS + 1];
        private final int[] newCurrents = new int[SIDE];

        int add(long w, int n) {
            if (n < 1 || n > 8) {
                return BAD;
            }
            for (int i = 0; i < n; i++) {
                if (byteOf(w, i) < 32 || byteOf(w, i) > 126) {
                    return BAD;
                }
            }
            if (length + n > MOST_BYTES) {
                return FULL;
            }
            for (int i = n - 1; i >= 0; i--) {
                bytes[length] = byteOf(w, i);
                length++;
            }
            return length;
        }

        private static int byteOf(long w, int i) {
            return (int) (w >>> 8 * i) & 255;
        }

        void empty() {
            length = 0;
        }

        /** Reads RINGS into rows by HOUR: how many CLAUSES, or a FAULT, by which the rows stay. */
        int readRings(int[] howFar, int[] tones) {
            int clauses = scanRings();
            for (int hour = 1; hour <= HOURS && clauses > 0; hour++) {
                if (newFar[hour] != UNSAID) {
                    howFar[hour] = newFar[hour];
                    tones[hour] = newTones[hour];
                }
            }
            return clauses;
        }

        private int scanRings() {
            place = 0;
            for (int hour = 0; hour <= HOURS; hour++) {
                newFar[hour] = UNSAID;
            }
            int hour = 0;
            for (int clauses = 1; clauses <= HOURS; clauses++) {
                hour = number(hour + 1, HOURS);
                if (hour == NO_NUMBER || !passes(':') || !scanRing(hour)) {
                    return fault();
                }
                if (isAtEnd()) {
                    return clauses;
                }
                if (clauses == HOURS || !passes(';')) {
                    return fault();
                }
            }
            return fault();
        }

        private boolean scanRing(int hour) {
            newFar[hour] = UNTOLD;
            if (!passes('?')) {
                int far = number(0, FARTHEST);
                if (far == NO_NUMBER) {
                    return false;
                }
                newFar[hour] = far;
            }
            newTones[hour] = passes('+') ? FROM : passes('-') ? TO : 0;
            return true;
        }

        /** Reads a SEA into a row from a place on: how many CURRENTS, or a FAULT, by which the row stays. */
        int readSea(int[] currents, int from) {
            place = 0;
            int moving = 0;
            for (int column = 0; column < SIDE; column++) {
                int course = isAtEnd() ? NO_NUMBER : bytes[place] - '0';
                if (course < 0 || course > STILL) {
                    return fault();
                }
                newCurrents[column] = course;
                moving += course == STILL ? 0 : 1;
                place++;
            }
            if (!isAtEnd() || from < 0 || from > currents.length - SIDE) {
                return fault();
            }
            System.arraycopy(newCurrents, 0, currents, from, SIDE);
            return moving;
        }

        /** A number that may be, or NO_NUMBER with the place left at its first byte. */
        private int number(int least, int most) {
            skipBlanks();
            int first = place;
            int v = 0;
            while (place < length && bytes[place] >= '0' && bytes[place] <= '9') {
                // A long number stays above all bounds without running over.
                v = Math.min(10 * v + bytes[place] - '0', 1000);
                place++;
            }
            if (place > first && v >= least && v <= most) {
                return v;
            }
            place = first;
            return NO_NUMBER;
        }

        private boolean passes(int sign) {
            if (isAtEnd() || bytes[place] != sign) {
                return false;
            }
            place++;
            return true;
        }

        private boolean isAtEnd() {
            skipBlanks();
            return place >= length;
        }

        private void skipBlanks() {
            while (place < length && bytes[place] == ' ') {
                place++;
            }
        }

        private int fault() {
            skipBlanks();
            return FAULT - place;
        }
    }

    /** Nothing, or a row of a LANE. */
    private static final class Sheet {
        private static final int NO_LANE = -1, BYTES = 0, SHORTS = 1;
        final int[] items = new int[ITEMS];
        int lane = NO_LANE;
        int size = 0;

        /** Holds a new row; the caller has seen that the LANE and the size may be. */
        void hold(int newLane, int n) {
            lane = newLane;
            size = n;
            for (int i = 0; i < ITEMS; i++) {
                items[i] = 0;
            }
        }

        void holdNothing() {
            lane = NO_LANE;
            size = 0;
        }

        boolean isNothing() {
            return lane == NO_LANE;
        }

        /** Whether there are n items from i on; written so that no sum runs over. */
        boolean has(int i, int n) {
            return i >= 0 && n >= 0 && n <= size && i <= size - n;
        }

        void put(int i, int v) {
            if (has(i, 1)) {
                items[i] = lane == BYTES ? (byte) v : lane == SHORTS ? (short) v : v;
            }
        }

        /** An item, or what is no CELL. */
        int at(int i) {
            return has(i, 1) ? items[i] : BEYOND;
        }
    }
}
