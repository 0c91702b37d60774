/**
 * A mountain that is moved a yard each year by vote. What each call promises stands in the
 * document's numbered promises; the classes inside hold the land, its text, votes and ways.
 */
public final class VotedHill {
    public static final int BAD = -1, FULL = -2, FINDING = -3, STATE = -4, SPENT = -6, NONE = -9;

    /** What is answered in place of a refusal, all of which are below 0. */
    private static final int ACCEPTED = 0;
    private static final int NOTHING = 1, BEYOND = 2, UNLIKE = 3, NOUGHT = 4, SIZE = 5;
    private static final int ROWS = 6, ROW_SIZE = 40, TEXTS = 4, TEXT_SIZE = 60, KEPT = 3;
    private static final int BYTE_SHIFT = 1000, COUNTS = 11, FINDINGS = 5;
    private static final int MOST_YEARS = 40, LATEST_YEAR = 60, MOST_COURSE = 5, MOST_TURNS = 6;
    private static final int MOST_LOTS = 20, LOT_MODULUS = 2147483647;
    private static final long LOT_FACTOR = 48271L;

    private final Strip[] rows = new Strip[ROWS];
    private final Strip[] texts = new Strip[TEXTS];
    private final Land land = new Land();
    private final Land draft = new Land();
    private final Land[] kept = new Land[KEPT];
    private final Reader reader = new Reader();
    private final Ballot ballot = new Ballot();
    private final Years years = new Years();
    private final Plans plans = new Plans();
    private final Clues clues = new Clues();
    private final Paths paths = new Paths();
    private final Chance chance = new Chance();
    private final int[] found = new int[FINDINGS + 1];
    private int latestFinding = 0;
    private int told = 0;

    public VotedHill() {
        for (int r = 0; r < ROWS; r++) {
            rows[r] = new Strip(ROW_SIZE);
        }
        for (int t = 0; t < TEXTS; t++) {
            texts[t] = new Strip(TEXT_SIZE);
        }
        for (int k = 0; k < KEPT; k++) {
            kept[k] = new Land();
        }
    }

    // ---- 1 rows, texts, lands

    public int row(int r, int n) {
        if (!isRow(r) || n > ROW_SIZE) {
            return BAD;
        }
        if (n < 0) {
            return refuse(SIZE);
        }
        rows[r].renew(n, 0);
        return n;
    }

    public int lay(int r, int i, int v) {
        int refused = isRow(r) ? placeRefusal(rows[r], i) : BAD;
        if (refused != ACCEPTED) {
            return refused;
        }
        told = rows[r].places[i];
        rows[r].places[i] = v;
        return 1;
    }

    public int at(int r, int i) {
        int refused = isRow(r) ? placeRefusal(rows[r], i) : BAD;
        if (refused != ACCEPTED) {
            return refused;
        }
        told = rows[r].places[i];
        return 1;
    }

    public int tear(int r) {
        if (!isRow(r)) {
            return BAD;
        }
        if (rows[r].isMissing()) {
            return refuse(NOTHING);
        }
        rows[r].remove();
        return 1;
    }

    public int copy(int r, int i, int to, int j, int n) {
        if (!isRow(r) || !isRow(to)) {
            return BAD;
        }
        if (n < 0) {
            return refuse(SIZE);
        }
        if (rows[r].isMissing() || rows[to].isMissing()) {
            return refuse(NOTHING);
        }
        if (!rows[r].holds(i, n) || !rows[to].holds(j, n)) {
            return refuse(BEYOND);
        }
        System.arraycopy(rows[r].places, i, rows[to].places, j, n);
        return 1;
    }

    public int mean(int r) {
        if (!isRow(r)) {
            return BAD;
        }
        Strip row = rows[r];
        if (row.isMissing()) {
            return refuse(NOTHING);
        }
        if (row.size == 0) {
            return refuse(NOUGHT);
        }
        long sum = 0;
        for (int i = 0; i < row.size; i++) {
            sum += row.places[i];
        }
        told = (int) (sum / row.size);
        return 1;
    }

    public int text(int t, int n) {
        if (!isText(t) || n > TEXT_SIZE) {
            return BAD;
        }
        if (n < 0) {
            return refuse(SIZE);
        }
        texts[t].renew(n, Reader.BLANK);
        return n;
    }

    public int put(int t, int i, int v) {
        int refused = isText(t) ? placeRefusal(texts[t], i) : BAD;
        if (refused != ACCEPTED) {
            return refused;
        }
        int before = texts[t].places[i];
        texts[t].places[i] = (byte) v;
        return before + BYTE_SHIFT;
    }

    public int fault(int t) {
        if (!isText(t)) {
            return BAD;
        }
        if (texts[t].isMissing()) {
            return refuse(NOTHING);
        }
        return reader.readLand(texts[t], draft);
    }

    public int land(int t) {
        if (!isText(t)) {
            return BAD;
        }
        if (texts[t].isMissing()) {
            return refuse(NOTHING);
        }
        if (reader.readLand(texts[t], draft) != NONE) {
            return STATE;
        }
        land.become(draft);
        for (int k = 0; k < KEPT; k++) {
            kept[k].clear();
        }
        return land.people;
    }

    public int one(int i, int what) {
        if (!land.hasOne(i) || what < 0 || what > 4) {
            return BAD;
        }
        told = aboutOne(i, what);
        return 1;
    }

    public int mark(int i, int kind) {
        if (!land.hasOne(i) || kind < Land.VINE || kind > Land.HERMIT) {
            return BAD;
        }
        if (!land.isOf(i, kind)) {
            return refuse(UNLIKE);
        }
        switch (kind) {
            case Land.VINE:
                return land.liesNorth(i, land.mountain) ? 1 : 0;
            case Land.WIDOW:
                return land.far(land.mountain, land.house[i]);
            case Land.GOAT:
                return abstainersBeside(i);
            case Land.MINER:
                return Math.max(0, land.gains(i, land.mountain)
                        - land.gainsAs(Land.WIDOW, i, land.mountain));
            default:
                return land.gainfulCells(i);
        }
    }

    public int gain(int i, int cell) {
        if (!land.hasOne(i) || !land.hasCell(cell)) {
            return BAD;
        }
        return land.gains(i, cell);
    }

    // ---- 2 deeds

    public int year() {
        if (land.isEmpty()) {
            return STATE;
        }
        if (land.deeds >= Land.MOST_DEEDS) {
            return FULL;
        }
        return passYear();
    }

    public int push(int way) {
        if (way < Land.NORTH || way > Land.WEST) {
            return BAD;
        }
        if (land.isEmpty() || land.beside(land.mountain, way) == Land.NOWHERE) {
            return STATE;
        }
        if (land.deeds >= Land.MOST_DEEDS) {
            return FULL;
        }
        land.bePushed(way);
        return land.mountain;
    }

    public int house(int i, int cell) {
        if (!land.hasOne(i) || !land.hasCell(cell)) {
            return BAD;
        }
        int before = land.house[i];
        if (before == cell) {
            return STATE;
        }
        if (land.deeds >= Land.MOST_DEEDS) {
            return FULL;
        }
        land.moveHouse(i, cell);
        return before;
    }

    public int undo(int n) {
        if (n < 0 || n > land.deeds) {
            return BAD;
        }
        int undone = land.deeds - n;
        land.undoFrom(n);
        return undone;
    }

    public int keep(int k) {
        if (k < 0 || k >= KEPT) {
            return BAD;
        }
        if (land.isEmpty()) {
            return STATE;
        }
        kept[k].become(land);
        return land.deeds;
    }

    public int on(int k) {
        if (k < 0 || k >= KEPT) {
            return BAD;
        }
        if (kept[k].isEmpty()) {
            return refuse(NOTHING);
        }
        land.become(kept[k]);
        return land.deeds;
    }

    // ---- 3 votes (aside, now)

    public int votes(int way) {
        if (!isWay(way)) {
            return BAD;
        }
        if (land.isEmpty()) {
            return STATE;
        }
        ballot.hold(land, land.mountain, land.back);
        told = ballot.votersFor(land, way);
        return ballot.heaps[way];
    }

    public int carries() {
        if (land.isEmpty()) {
            return STATE;
        }
        ballot.hold(land, land.mountain, land.back);
        told = ballot.lead();
        return ballot.winner();
    }

    public int buy(int way) {
        if (!isWay(way)) {
            return BAD;
        }
        if (land.isEmpty()) {
            return STATE;
        }
        if (!land.canGo(land.mountain, land.back, way)) {
            return NONE;
        }
        ballot.hold(land, land.mountain, land.back);
        int cheapest = ballot.cheapestBought(land, way);
        if (cheapest == NONE) {
            return NONE;
        }
        told = cheapest;
        return land.hearthsOf(cheapest);
    }

    // ---- 4 years to come (aside, HOUSES as they are)

    public int then(int n) {
        if (n < 0 || n > MOST_YEARS) {
            return BAD;
        }
        if (land.isEmpty()) {
            return STATE;
        }
        years.begin(land);
        for (int y = 0; y < n; y++) {
            years.pass(land, ballot);
        }
        told = land.worth(years.cell);
        return years.cell;
    }

    public int when(int cell) {
        if (!land.hasCell(cell)) {
            return BAD;
        }
        years.begin(land);
        for (int y = 0; y <= LATEST_YEAR; y++) {
            if (years.cell == cell) {
                return y;
            }
            years.pass(land, ballot);
        }
        return NONE;
    }

    public int round() {
        if (land.isEmpty()) {
            return STATE;
        }
        int behind = years.untilRepeat(land, ballot);
        told = years.period;
        return behind;
    }

    public int course(int n, int r) {
        if (n < 0 || n > MOST_COURSE || !isRow(r)) {
            return BAD;
        }
        if (land.isEmpty()) {
            return STATE;
        }
        rows[r].renew(n, 0);
        return plans.bestCourse(land, n, rows[r].places);
    }

    // ---- 5 where it stood

    public int fits(int r) {
        int refused = cellPairsRefusal(r);
        if (refused != ACCEPTED) {
            return refused;
        }
        int cells = clues.fittingCells(land, rows[r]);
        told = Integer.bitCount(cells);
        return cells;
    }

    public int next(int r) {
        int refused = cellPairsRefusal(r);
        if (refused != ACCEPTED) {
            return refused;
        }
        int cells = clues.fittingCells(land, rows[r]);
        if (cells == 0) {
            return NONE;
        }
        int teller = clues.bestTeller(land, cells);
        told = clues.leastPart;
        return teller;
    }

    public int kinds(int i, int r) {
        int refused = kindPairsRefusal(i, r);
        if (refused != ACCEPTED) {
            return refused;
        }
        return clues.fittingKinds(land, i, rows[r]);
    }

    public int test(int i, int r) {
        int refused = kindPairsRefusal(i, r);
        if (refused != ACCEPTED) {
            return refused;
        }
        int possible = clues.fittingKinds(land, i, rows[r]);
        if (possible == 0) {
            return NONE;
        }
        int cell = clues.bestCell(land, i, possible);
        told = clues.leastPart;
        return cell;
    }

    // ---- 6 ways round it

    public int way(int from, int to) {
        if (!land.hasCell(from) || !land.hasCell(to)) {
            return BAD;
        }
        int steps = paths.steps(land, from, to, Land.NOWHERE);
        if (steps == Land.NOWHERE) {
            return NONE;
        }
        told = paths.firstWay(land, from);
        return steps;
    }

    public int parts(int from, int to) {
        if (!land.hasCell(from) || !land.hasCell(to) || from == to) {
            return BAD;
        }
        int parting = 0;
        for (int cell = 0; cell < land.cells(); cell++) {
            boolean mayClose = cell != from && cell != to && cell != land.mountain;
            if (mayClose && paths.steps(land, from, to, cell) == Land.NOWHERE) {
                parting |= 1 << cell;
            }
        }
        return parting;
    }

    // ---- 7 by turns

    public int duel(int n) {
        if (n < 0 || n > MOST_TURNS) {
            return BAD;
        }
        if (land.isEmpty()) {
            return STATE;
        }
        return plans.duelWorth(land, n);
    }

    // ---- 8 chances, lots

    public int odds(int way, int p) {
        if (!isWay(way) || p < 0 || p > Chance.WHOLE) {
            return BAD;
        }
        if (land.isEmpty()) {
            return STATE;
        }
        ballot.hold(land, land.mountain, land.back);
        chance.weigh(land, ballot, p);
        chance.tell(chance.weights[way]);
        return 1;
    }

    public int mid(int p) {
        if (p < 0 || p > Chance.WHOLE) {
            return BAD;
        }
        if (land.isEmpty()) {
            return STATE;
        }
        ballot.hold(land, land.mountain, land.back);
        chance.weigh(land, ballot, p);
        long sum = 0;
        for (int way = 0; way < Land.WAYS; way++) {
            if (chance.weights[way] > 0) {
                sum += chance.weights[way] * land.worth(land.beside(land.mountain, way));
            }
        }
        chance.tell(sum);
        return 1;
    }

    public int lots(int n, int seed) {
        if (n < 1 || n > MOST_LOTS || seed < 1 || seed >= LOT_MODULUS) {
            return BAD;
        }
        if (land.isEmpty()) {
            return STATE;
        }
        if (land.deeds > Land.MOST_DEEDS - n) {
            return FULL;
        }
        int lot = seed;
        for (int d = 0; d < n; d++) {
            lot = (int) (LOT_FACTOR * lot % LOT_MODULUS);
            if (lot % 3 == 0) {
                land.bePushed(1 + lot / 8 % 4);
            } else {
                passYear();
            }
        }
        return land.mountain;
    }

    // ---- 9 what is told

    public int asked() {
        return told;
    }

    public long upper() {
        return chance.upperNumber;
    }

    public long lower() {
        return chance.lowerNumber;
    }

    public int count(int what) {
        switch (what) {
            case 0:
                return land.people;
            case 1:
                return land.cells();
            case 2:
                return land.mountain;
            case 3:
                return land.deeds;
            case 4:
                return land.years;
            case 5:
                return land.back;
            case 6:
                return land.allHearths();
            case 7:
                return land.widows();
            case 8:
                return present(rows);
            case 9:
                return present(texts);
            case 10:
                return keptLands();
            default:
                return BAD;
        }
    }

    public int finding() {
        return latestFinding;
    }

    public int findings(int f) {
        return f < 1 || f > FINDINGS ? BAD : found[f];
    }

    public long digest() {
        long h = 17;
        for (int what = 0; what < COUNTS; what++) {
            h = 31 * h + count(what);
        }
        for (int i = 0; i < land.people; i++) {
            for (int what = 0; what <= 4; what++) {
                h = 31 * h + aboutOne(i, what);
            }
        }
        for (int k = 0; k < KEPT; k++) {
            h = 31 * h + (kept[k].isEmpty() ? -1 : kept[k].deeds);
        }
        for (int r = 0; r < ROWS; r++) {
            h = rows[r].mixInto(h);
        }
        for (int t = 0; t < TEXTS; t++) {
            h = texts[t].mixInto(h);
        }
        return h;
    }

    private static boolean isRow(int r) {
        return r >= 0 && r < ROWS;
    }

    private static boolean isText(int t) {
        return t >= 0 && t < TEXTS;
    }

    private static boolean isWay(int way) {
        return way >= 0 && way < Land.WAYS;
    }

    private int refuse(int finding) {
        latestFinding = finding;
        if (finding >= 1 && finding <= FINDINGS) {
            found[finding]++;
        }
        return FINDING;
    }

    /** What a call about place i of a strip is refused with, or ACCEPTED. */
    private int placeRefusal(Strip strip, int i) {
        if (strip.isMissing()) {
            return refuse(NOTHING);
        }
        return i < 0 || i >= strip.size ? refuse(BEYOND) : ACCEPTED;
    }

    /** What a call about a ROW of pairs (one of PEOPLE, a GAIN) is refused with, or ACCEPTED. */
    private int cellPairsRefusal(int r) {
        if (!isRow(r)) {
            return BAD;
        }
        return land.isEmpty() ? STATE : pairsRefusal(rows[r], land.people);
    }

    /** What a call about one by a ROW of pairs (a CELL, a GAIN) is refused with, or ACCEPTED. */
    private int kindPairsRefusal(int i, int r) {
        return land.hasOne(i) && isRow(r) ? pairsRefusal(rows[r], land.cells()) : BAD;
    }

    /** Pairs are of a number below firsts and a GAIN. */
    private int pairsRefusal(Strip row, int firsts) {
        if (row.isMissing()) {
            return refuse(NOTHING);
        }
        if (row.size % 2 != 0) {
            return refuse(SIZE);
        }
        for (int i = 0; i + 1 < row.size; i += 2) {
            int first = row.places[i];
            int gained = row.places[i + 1];
            if (first < 0 || first >= firsts || gained < 0 || gained > Clues.MOST_GAIN) {
                return refuse(UNLIKE);
            }
        }
        return ACCEPTED;
    }

    private int aboutOne(int i, int what) {
        switch (what) {
            case 0:
                return land.kind[i];
            case 1:
                return land.house[i];
            case 2:
                return land.hearths[i];
            case 3:
                return land.gains(i, land.mountain);
            default:
                return Ballot.choiceOf(land, i, land.mountain, land.back);
        }
    }

    private int abstainersBeside(int i) {
        int abstainers = 0;
        for (int other = 0; other < land.people; other++) {
            if (other != i && aboutOne(other, 4) == NONE) {
                abstainers++;
            }
        }
        return abstainers;
    }

    private int passYear() {
        ballot.hold(land, land.mountain, land.back);
        int way = ballot.winner();
        land.goInYear(way);
        return way;
    }

    private static int present(Strip[] strips) {
        int there = 0;
        for (int s = 0; s < strips.length; s++) {
            there += strips[s].isMissing() ? 0 : 1;
        }
        return there;
    }

    private int keptLands() {
        int there = 0;
        for (int k = 0; k < KEPT; k++) {
            there += kept[k].isEmpty() ? 0 : 1;
        }
        return there;
    }

    /** A ROW or a TEXT: its places are made once and used again, so that calls make nothing. */
    private static final class Strip {
        static final int MISSING = -1;

        final int[] places;
        int size = MISSING;

        Strip(int most) {
            places = new int[Math.max(0, most)];
        }

        boolean isMissing() {
            return size == MISSING;
        }

        void remove() {
            size = MISSING;
        }

        void renew(int n, int value) {
            size = Math.max(0, Math.min(n, places.length));
            for (int i = 0; i < size; i++) {
                places[i] = value;
            }
        }

        boolean holds(int from, int n) {
            return from >= 0 && n >= 0 && from <= size - n;
        }

        long mixInto(long h) {
            long mixed = 31 * h + size;
            for (int i = 0; i < size; i++) {
                mixed = 31 * mixed + places[i];
            }
            return mixed;
        }
    }

    /** A LAND with its PEOPLE, the MOUNTAIN and the DEEDS; it is empty while it has no CELLS. */
    private static final class Land {
        static final int FARMER = 0, VINE = 1, WIDOW = 2, GOAT = 3, MINER = 4, HERMIT = 5, KINDS = 6;
        static final int STAY = 0, NORTH = 1, EAST = 2, SOUTH = 3, WEST = 4, WAYS = 5;
        static final int NOWHERE = -1, MOST_PEOPLE = 6, MOST_CELLS = 25, MOST_DEEDS = 40;
        /** Which KIND each KIND is of besides itself. */
        private static final int[] WIDER_KIND = {FARMER, FARMER, FARMER, FARMER, WIDOW, GOAT};
        private static final int[] AGAINST = {STAY, SOUTH, WEST, NORTH, EAST};
        private static final int NOBODY = -1;

        int columns = 0;
        int lines = 0;
        int people = 0;
        int mountain = 0;
        int back = STAY;
        int years = 0;
        int deeds = 0;
        final int[] kind = new int[MOST_PEOPLE];
        final int[] house = new int[MOST_PEOPLE];
        final int[] hearths = new int[MOST_PEOPLE];
        /** What was before each DEED, so that it can be undone. */
        private final int[] oldMountain = new int[MOST_DEEDS];
        private final int[] oldBack = new int[MOST_DEEDS];
        private final int[] oldYears = new int[MOST_DEEDS];
        private final int[] movedOne = new int[MOST_DEEDS];
        private final int[] oldHouse = new int[MOST_DEEDS];

        void clear() {
            columns = 0;
            lines = 0;
            people = 0;
            mountain = 0;
            back = STAY;
            years = 0;
            deeds = 0;
        }

        void become(Land other) {
            columns = other.columns;
            lines = other.lines;
            people = other.people;
            mountain = other.mountain;
            back = other.back;
            years = other.years;
            deeds = other.deeds;
            System.arraycopy(other.kind, 0, kind, 0, people);
            System.arraycopy(other.house, 0, house, 0, people);
            System.arraycopy(other.hearths, 0, hearths, 0, people);
            System.arraycopy(other.oldMountain, 0, oldMountain, 0, deeds);
            System.arraycopy(other.oldBack, 0, oldBack, 0, deeds);
            System.arraycopy(other.oldYears, 0, oldYears, 0, deeds);
            System.arraycopy(other.movedOne, 0, movedOne, 0, deeds);
            System.arraycopy(other.oldHouse, 0, oldHouse, 0, deeds);
        }

        void settle(int letterKind, int cell, int fires) {
            if (people < MOST_PEOPLE) {
                kind[people] = letterKind;
                house[people] = cell;
                hearths[people] = fires;
                people++;
            }
        }

        boolean isEmpty() {
            return columns == 0;
        }

        int cells() {
            return columns * lines;
        }

        boolean hasCell(int cell) {
            return cell >= 0 && cell < cells();
        }

        boolean hasOne(int i) {
            return i >= 0 && i < people;
        }

        int far(int cell, int other) {
            if (columns < 1) {
                return 0;
            }
            return Math.abs(cell % columns - other % columns) + Math.abs(cell / columns - other / columns);
        }

        /** The CELL that lies a WAY from a CELL, or NOWHERE. */
        int beside(int cell, int way) {
            if (columns < 1) {
                return NOWHERE;
            }
            int line = cell / columns;
            int column = cell % columns;
            switch (way) {
                case STAY:
                    return cell;
                case NORTH:
                    return line > 0 ? cell - columns : NOWHERE;
                case EAST:
                    return column < columns - 1 ? cell + 1 : NOWHERE;
                case SOUTH:
                    return line < lines - 1 ? cell + columns : NOWHERE;
                case WEST:
                    return column > 0 ? cell - 1 : NOWHERE;
                default:
                    return NOWHERE;
            }
        }

        /** Whether a WAY can be voted for while the MOUNTAIN is on a CELL. */
        boolean canGo(int cell, int backWay, int way) {
            return way == STAY || way != backWay && beside(cell, way) != NOWHERE;
        }

        static int against(int way) {
            return way < 0 || way >= WAYS ? STAY : AGAINST[way];
        }

        boolean isOf(int i, int wanted) {
            return kind[i] == wanted || WIDER_KIND[kind[i]] == wanted;
        }

        boolean liesNorth(int i, int cell) {
            return columns > 0 && cell / columns < house[i] / columns;
        }

        int gains(int i, int cell) {
            return gainOf(kind[i], far(cell, house[i]), liesNorth(i, cell));
        }

        /** What one would GAIN by a CELL, were one of a KIND. */
        int gainsAs(int someKind, int i, int cell) {
            return gainOf(someKind, far(cell, house[i]), liesNorth(i, cell));
        }

        private static int gainOf(int someKind, int away, boolean north) {
            switch (someKind) {
                case VINE:
                    return north ? away + 3 : away;
                case WIDOW:
                    return 9 - away;
                case GOAT:
                    return 0;
                case MINER:
                    return away == 0 ? 0 : 2 * (9 - away);
                case HERMIT:
                    return away == 1 ? 5 : 0;
                default:
                    return away;
            }
        }

        int gainfulCells(int i) {
            int gainful = 0;
            for (int cell = 0; cell < cells(); cell++) {
                gainful += gains(i, cell) > 0 ? 1 : 0;
            }
            return gainful;
        }

        /** What all GAIN by a CELL, HEARTHS times. */
        int worth(int cell) {
            int sum = 0;
            for (int i = 0; i < people; i++) {
                sum += hearths[i] * gains(i, cell);
            }
            return sum;
        }

        int hearthsOf(int set) {
            int sum = 0;
            for (int i = 0; i < people; i++) {
                sum += (set >> i & 1) * hearths[i];
            }
            return sum;
        }

        int allHearths() {
            return hearthsOf(-1);
        }

        int widows() {
            int sum = 0;
            for (int i = 0; i < people; i++) {
                sum += isOf(i, WIDOW) ? 1 : 0;
            }
            return sum;
        }

        void goInYear(int way) {
            if (beside(mountain, way) == NOWHERE || !remember(NOBODY)) {
                return;
            }
            mountain = beside(mountain, way);
            back = against(way);
            years++;
        }

        /** Where there is no CELL it stays, all the same a push. */
        void bePushed(int way) {
            if (!remember(NOBODY)) {
                return;
            }
            int cell = beside(mountain, way);
            mountain = cell == NOWHERE ? mountain : cell;
            back = STAY;
        }

        void moveHouse(int i, int cell) {
            if (remember(i)) {
                house[i] = cell;
            }
        }

        private boolean remember(int one) {
            if (deeds >= MOST_DEEDS) {
                return false;
            }
            oldMountain[deeds] = mountain;
            oldBack[deeds] = back;
            oldYears[deeds] = years;
            movedOne[deeds] = one;
            oldHouse[deeds] = hasOne(one) ? house[one] : NOWHERE;
            deeds++;
            return true;
        }

        void undoFrom(int n) {
            for (int d = deeds - 1; d >= n && d >= 0; d--) {
                mountain = oldMountain[d];
                back = oldBack[d];
                years = oldYears[d];
                if (hasOne(movedOne[d])) {
                    house[movedOne[d]] = oldHouse[d];
                }
                deeds = d;
            }
        }
    }

    /** Reads a LAND out of a TEXT. */
    private static final class Reader {
        static final int BLANK = 32;
        private static final int NO_FIGURE = -1, NO_KIND = -1, ZERO = 48;
        private static final char LAND_LETTER = 'l';
        private static final char[] KIND_LETTERS = {'f', 'v', 'w', 'g', 'm', 'h'};

        private Strip source = null;
        private int place = 0;

        /** Reads into a LAND: the FAULT's place, which is where reading stopped, or NONE. */
        int readLand(Strip strip, Land into) {
            source = strip;
            place = 0;
            into.clear();
            if (!readGround(into)) {
                return place;
            }
            skipBlanks();
            for (int i = 0; i < Land.MOST_PEOPLE && !atEnd(); i++) {
                if (!readOne(into)) {
                    return place;
                }
                skipBlanks();
            }
            return atEnd() && into.people > 0 ? NONE : place;
        }

        private boolean readGround(Land into) {
            skipBlanks();
            if (atEnd() || sign() != LAND_LETTER) {
                return false;
            }
            place++;
            int columns = figure(3, 5);
            int lines = columns == NO_FIGURE ? NO_FIGURE : figure(3, 5);
            int column = lines == NO_FIGURE ? NO_FIGURE : figure(0, columns - 1);
            int line = column == NO_FIGURE ? NO_FIGURE : figure(0, lines - 1);
            if (line == NO_FIGURE) {
                return false;
            }
            into.columns = columns;
            into.lines = lines;
            into.mountain = columns * line + column;
            return true;
        }

        private boolean readOne(Land into) {
            int kind = atEnd() ? NO_KIND : kindOf(sign());
            if (kind == NO_KIND) {
                return false;
            }
            place++;
            int column = figure(0, into.columns - 1);
            int line = column == NO_FIGURE ? NO_FIGURE : figure(0, into.lines - 1);
            int hearths = line == NO_FIGURE ? NO_FIGURE : figure(1, 9);
            if (hearths == NO_FIGURE) {
                return false;
            }
            into.settle(kind, into.columns * line + column, hearths);
            return true;
        }

        private static int kindOf(int letter) {
            for (int k = 0; k < KIND_LETTERS.length; k++) {
                if (KIND_LETTERS[k] == letter) {
                    return k;
                }
            }
            return NO_KIND;
        }

        /** The figure here, and goes behind it; where it is none such, stays: the FAULT is here. */
        private int figure(int least, int most) {
            int value = atEnd() ? NO_FIGURE : sign() - ZERO;
            if (value < least || value > most) {
                return NO_FIGURE;
            }
            place++;
            return value;
        }

        private boolean atEnd() {
            return source == null || place >= source.size;
        }

        private int sign() {
            return source == null || place < 0 || place >= source.size ? BLANK : source.places[place];
        }

        private void skipBlanks() {
            for (int n = 0; n < TEXT_SIZE && !atEnd() && sign() == BLANK; n++) {
                place++;
            }
        }
    }

    /** A vote: what each one chooses, and the HEARTHS heaped up for each WAY. */
    private static final class Ballot {
        final int[] choices = new int[Land.MOST_PEOPLE];
        final int[] heaps = new int[Land.WAYS];

        void hold(Land land, int cell, int back) {
            for (int i = 0; i < land.people; i++) {
                choices[i] = choiceOf(land, i, cell, back);
            }
            heap(land, 0, NONE);
        }

        /** The WAY that one votes for, or NONE. */
        static int choiceOf(Land land, int i, int cell, int back) {
            int stayed = land.gains(i, cell);
            int most = stayed;
            int choice = Land.STAY;
            boolean alike = true;
            for (int way = Land.NORTH; way <= Land.WEST; way++) {
                if (!land.canGo(cell, back, way)) {
                    continue;
                }
                int gained = land.gains(i, land.beside(cell, way));
                alike = alike && gained == stayed;
                if (gained > most) {
                    most = gained;
                    choice = way;
                }
            }
            return alike && land.isOf(i, Land.GOAT) ? NONE : choice;
        }

        /** Heaps up the HEARTHS, those of a set for another WAY (NONE: for none) than they chose. */
        void heap(Land land, int set, int otherWay) {
            for (int way = 0; way < Land.WAYS; way++) {
                heaps[way] = 0;
            }
            for (int i = 0; i < land.people; i++) {
                int way = (set >> i & 1) != 0 ? otherWay : choices[i];
                if (way >= 0 && way < Land.WAYS) {
                    heaps[way] += land.hearths[i];
                }
            }
        }

        int winner() {
            int best = Land.STAY;
            boolean alone = true;
            for (int way = Land.NORTH; way <= Land.WEST; way++) {
                if (heaps[way] > heaps[best]) {
                    best = way;
                    alone = true;
                } else if (heaps[way] == heaps[best]) {
                    alone = false;
                }
            }
            return alone ? best : Land.STAY;
        }

        /** By how many HEARTHS the greatest heap is ahead of the next one. */
        int lead() {
            int most = 0;
            int second = 0;
            for (int way = 0; way < Land.WAYS; way++) {
                if (heaps[way] > most) {
                    second = most;
                    most = heaps[way];
                } else {
                    second = Math.max(second, heaps[way]);
                }
            }
            return most - second;
        }

        int votersFor(Land land, int way) {
            int voters = 0;
            for (int i = 0; i < land.people; i++) {
                voters |= choices[i] == way ? 1 << i : 0;
            }
            return voters;
        }

        /** The set of fewest HEARTHS (of like ones the least number) that makes a WAY carry, or NONE. */
        int cheapestBought(Land land, int way) {
            int cheapest = NONE;
            int price = land.allHearths() + 1;
            for (int set = 0; set < 1 << land.people; set++) {
                int cost = land.hearthsOf(set);
                if (cost >= price) {
                    continue;
                }
                heap(land, set, way);
                if (winner() == way) {
                    cheapest = set;
                    price = cost;
                }
            }
            return cheapest;
        }
    }

    /** Years that pass aside: the MOUNTAIN's CELL and what is back, while the LAND stays as it is. */
    private static final class Years {
        private static final int MOST_STATES = Land.MOST_CELLS * Land.WAYS, UNSEEN = -1;

        int cell = 0;
        int period = 0;
        private int back = Land.STAY;
        private final int[] seenIn = new int[MOST_STATES];

        void begin(Land land) {
            cell = land.mountain;
            back = land.back;
        }

        void pass(Land land, Ballot ballot) {
            ballot.hold(land, cell, back);
            int way = ballot.winner();
            int there = land.beside(cell, way);
            cell = there == Land.NOWHERE ? cell : there;
            back = Land.against(way);
        }

        /** Behind how many years CELL and back come again; period is how long that takes once more. */
        int untilRepeat(Land land, Ballot ballot) {
            for (int s = 0; s < MOST_STATES; s++) {
                seenIn[s] = UNSEEN;
            }
            begin(land);
            for (int y = 0; y <= MOST_STATES; y++) {
                int state = cell * Land.WAYS + back;
                if (seenIn[state] != UNSEEN) {
                    period = y - seenIn[state];
                    return y;
                }
                seenIn[state] = y;
                pass(land, ballot);
            }
            return NONE;
        }
    }

    /** The best course of years, and the duel: both from the last year or turn back to the first. */
    private static final class Plans {
        private static final int STATES = Land.MOST_CELLS * Land.WAYS;

        private final int[] worths = new int[Land.MOST_CELLS];
        /** By how many years are left and by CELL and back: the most that can be gained in them. */
        private final int[][] bests = new int[MOST_COURSE + 1][STATES];
        /** By how many turns are played and by CELL: what all GAIN at last. */
        private final int[][] duels = new int[MOST_TURNS + 1][Land.MOST_CELLS];

        int bestCourse(Land land, int n, int[] ways) {
            weighCells(land);
            for (int left = 1; left <= n; left++) {
                for (int cell = 0; cell < land.cells(); cell++) {
                    for (int back = 0; back < Land.WAYS; back++) {
                        int way = bestWay(land, left, cell, back);
                        bests[left][cell * Land.WAYS + back] = gainedBy(land, left, cell, way);
                    }
                }
            }
            int cell = land.mountain;
            int back = land.back;
            for (int y = 0; y < n && y < ways.length; y++) {
                ways[y] = bestWay(land, n - y, cell, back);
                cell = land.beside(cell, ways[y]);
                back = Land.against(ways[y]);
            }
            return bests[n][land.mountain * Land.WAYS + land.back];
        }

        private void weighCells(Land land) {
            for (int cell = 0; cell < land.cells(); cell++) {
                worths[cell] = land.worth(cell);
            }
        }

        /** The first WAY by which most is gained in the years that are left. */
        private int bestWay(Land land, int left, int cell, int back) {
            int best = Land.STAY;
            int most = gainedBy(land, left, cell, Land.STAY);
            for (int way = Land.NORTH; way <= Land.WEST; way++) {
                if (!land.canGo(cell, back, way)) {
                    continue;
                }
                int gained = gainedBy(land, left, cell, way);
                if (gained > most) {
                    most = gained;
                    best = way;
                }
            }
            return best;
        }

        private int gainedBy(Land land, int left, int cell, int way) {
            int there = land.beside(cell, way);
            if (there == Land.NOWHERE || left < 1) {
                return 0;
            }
            return worths[there] + bests[left - 1][there * Land.WAYS + Land.against(way)];
        }

        int duelWorth(Land land, int n) {
            for (int cell = 0; cell < land.cells(); cell++) {
                duels[n][cell] = land.worth(cell);
            }
            for (int turn = n - 1; turn >= 0; turn--) {
                for (int cell = 0; cell < land.cells(); cell++) {
                    duels[turn][cell] = wanted(land, turn, cell);
                }
            }
            return duels[0][land.mountain];
        }

        /** What comes of a CELL for who pushes in a turn: the first one wants much, the other little. */
        private int wanted(Land land, int turn, int cell) {
            int best = duels[turn + 1][cell];
            for (int way = Land.NORTH; way <= Land.WEST; way++) {
                int there = land.beside(cell, way);
                if (there != Land.NOWHERE) {
                    int comes = duels[turn + 1][there];
                    best = turn % 2 == 0 ? Math.max(best, comes) : Math.min(best, comes);
                }
            }
            return best;
        }
    }

    /** What can be told by what was gained: CELLS, KINDS, and which question parts them best. */
    private static final class Clues {
        static final int MOST_GAIN = 30;

        int leastPart = 0;
        private final int[] tally = new int[MOST_GAIN + 1];

        int fittingCells(Land land, Strip pairs) {
            int fitting = 0;
            for (int cell = 0; cell < land.cells(); cell++) {
                boolean fits = true;
                for (int p = 0; p + 1 < pairs.size; p += 2) {
                    fits = fits && land.gains(pairs.places[p], cell) == pairs.places[p + 1];
                }
                fitting |= fits ? 1 << cell : 0;
            }
            return fitting;
        }

        int fittingKinds(Land land, int i, Strip pairs) {
            int fitting = 0;
            for (int kind = 0; kind < Land.KINDS; kind++) {
                boolean fits = true;
                for (int p = 0; p + 1 < pairs.size; p += 2) {
                    fits = fits && land.gainsAs(kind, i, pairs.places[p]) == pairs.places[p + 1];
                }
                fitting |= fits ? 1 << kind : 0;
            }
            return fitting;
        }

        /** The first of PEOPLE by whose GAIN the greatest part of CELLS left is least. */
        int bestTeller(Land land, int cells) {
            int best = 0;
            leastPart = Land.MOST_CELLS + 1;
            for (int i = 0; i < land.people; i++) {
                startTally();
                for (int cell = 0; cell < land.cells(); cell++) {
                    if ((cells >> cell & 1) != 0) {
                        addToTally(land.gains(i, cell));
                    }
                }
                best = takeIfLess(i, best);
            }
            return best;
        }

        /** The first CELL by which the greatest part of KINDS left is least. */
        int bestCell(Land land, int i, int kinds) {
            int best = 0;
            leastPart = Land.KINDS + 1;
            for (int cell = 0; cell < land.cells(); cell++) {
                startTally();
                for (int kind = 0; kind < Land.KINDS; kind++) {
                    if ((kinds >> kind & 1) != 0) {
                        addToTally(land.gainsAs(kind, i, cell));
                    }
                }
                best = takeIfLess(cell, best);
            }
            return best;
        }

        private void startTally() {
            for (int g = 0; g <= MOST_GAIN; g++) {
                tally[g] = 0;
            }
        }

        private void addToTally(int gained) {
            if (gained >= 0 && gained <= MOST_GAIN) {
                tally[gained]++;
            }
        }

        private int takeIfLess(int candidate, int best) {
            int greatest = 0;
            for (int g = 0; g <= MOST_GAIN; g++) {
                greatest = Math.max(greatest, tally[g]);
            }
            if (greatest >= leastPart) {
                return best;
            }
            leastPart = greatest;
            return candidate;
        }
    }

    /** Shortest ways round the MOUNTAIN, measured from where they end. */
    private static final class Paths {
        private final int[] steps = new int[Land.MOST_CELLS];
        private final int[] queue = new int[Land.MOST_CELLS];

        /** How many steps it is, if a CELL is closed, too (NOWHERE: none is); NOWHERE: there is no way. */
        int steps(Land land, int from, int to, int closed) {
            for (int cell = 0; cell < land.cells(); cell++) {
                steps[cell] = Land.NOWHERE;
            }
            if (from == land.mountain || to == land.mountain) {
                return Land.NOWHERE;
            }
            steps[to] = 0;
            queue[0] = to;
            int tail = 1;
            for (int head = 0; head < tail && head < Land.MOST_CELLS; head++) {
                tail = reachBeside(land, queue[head], closed, tail);
            }
            return steps[from];
        }

        private int reachBeside(Land land, int cell, int closed, int tail) {
            int end = tail;
            for (int way = Land.NORTH; way <= Land.WEST; way++) {
                int there = land.beside(cell, way);
                boolean open = there != Land.NOWHERE && there != land.mountain && there != closed;
                if (open && steps[there] == Land.NOWHERE && end < Land.MOST_CELLS) {
                    steps[there] = steps[cell] + 1;
                    queue[end] = there;
                    end++;
                }
            }
            return end;
        }

        /** The least WAY of a first step of a shortest way that was measured just now; 0: none needed. */
        int firstWay(Land land, int from) {
            for (int way = Land.NORTH; way <= Land.WEST; way++) {
                int there = land.beside(from, way);
                if (there != Land.NOWHERE && steps[there] != Land.NOWHERE
                        && steps[there] == steps[from] - 1) {
                    return way;
                }
            }
            return Land.STAY;
        }
    }

    /** Chances in whole weights, and the number in lowest terms that was told last. */
    private static final class Chance {
        static final int WHOLE = 12;
        private static final int MOST_DIVISIONS = 200;

        long upperNumber = 0;
        long lowerNumber = 1;
        /** How much of all weight falls on each WAY that CARRIES. */
        final long[] weights = new long[Land.WAYS];
        private long allWeight = 1;

        /** Weighs each set of voters who abstain, each by p of 12, by the WAY that CARRIES then. */
        void weigh(Land land, Ballot ballot, int p) {
            allWeight = 0;
            for (int way = 0; way < Land.WAYS; way++) {
                weights[way] = 0;
            }
            for (int set = 0; set < 1 << land.people; set++) {
                long weight = weightOf(land, ballot, set, p);
                if (weight > 0) {
                    ballot.heap(land, set, NONE);
                    weights[ballot.winner()] += weight;
                    allWeight += weight;
                }
            }
        }

        /** 0 for a set with one who does not vote anyway. */
        private static long weightOf(Land land, Ballot ballot, int set, int p) {
            long weight = 1;
            for (int i = 0; i < land.people; i++) {
                boolean abstains = (set >> i & 1) != 0;
                if (ballot.choices[i] == NONE) {
                    weight *= abstains ? 0 : 1;
                } else {
                    weight *= abstains ? p : WHOLE - p;
                }
            }
            return weight;
        }

        void tell(long upper) {
            long divisor = commonDivisor(upper, allWeight);
            if (divisor > 0) {
                upperNumber = upper / divisor;
                lowerNumber = allWeight / divisor;
            }
        }

        private static long commonDivisor(long one, long other) {
            long greater = one;
            long rest = other;
            for (int d = 0; d < MOST_DIVISIONS && rest != 0; d++) {
                long next = greater % rest;
                greater = rest;
                rest = next;
            }
            return greater;
        }
    }
}
