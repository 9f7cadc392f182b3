import java.util.Arrays;

/** A rowing club: oars, boats, seat races, rules of the river, outings, heats and a trailer. */
public final class DawnEights {
    public static final int NONE = -1, BAD = -2, STATE = -3, FULL = -4;
    public static final long NO = Long.MIN_VALUE;

    private static final int NO_SUCH_SEAT = -5;
    private static final int FAULT_BASE = -10;
    private static final int LAST_HOUR = 23;
    private static final int LAST_DAY = 999;
    private static final int LAST_MINUTE = 1439;
    private static final int MOST_NEAR = 999;
    private static final int MOST_ROW = 999;
    private static final int MOST_BY = 999;
    private static final int LEAST_WEIGHT = 30, MOST_WEIGHT = 150;
    private static final int MOST_LENGTH = 99;
    private static final int KINDS = 5;

    private final Club club = new Club();
    private final Races races = new Races();
    private final CrewPlan plan = new CrewPlan();
    private final River river = new River();
    private final Tape tape = new Tape();
    private final RuleBook rules = new RuleBook();
    private final Logbook log = new Logbook();
    private final Heats heats = new Heats();
    private final Racks racks = new Racks();
    private int today = 0;

    public DawnEights() {
    }

    // ---- oars and boats

    public int oar(int kind, int weight) {
        if (!within(kind, 0, KINDS - 1) || !within(weight, LEAST_WEIGHT, MOST_WEIGHT)) {
            return BAD;
        }
        return club.oars < Club.MOST_OARS ? club.addOar(kind, weight) : FULL;
    }

    public int boat(int kind, int least, int most, int length) {
        if (!within(kind, 0, KINDS - 1) || !within(length, 1, MOST_LENGTH)) {
            return BAD;
        }
        if (!within(least, LEAST_WEIGHT, MOST_WEIGHT) || !within(most, least, MOST_WEIGHT)) {
            return BAD;
        }
        return club.boats < Club.MOST_BOATS ? club.addBoat(kind, least, most, length) : FULL;
    }

    public int ill(int o, int is) {
        if (!club.hasOar(o)) {
            return NONE;
        }
        if (!within(is, 0, 1)) {
            return BAD;
        }
        int was = club.sick[o];
        club.sick[o] = is;
        return was;
    }

    public int sit(int b, int s, int o) {
        if (!club.hasSeat(b, s) || (o != NONE && !club.hasOar(o))) {
            return NO_SUCH_SEAT;
        }
        if (o != NONE && !club.maySit(o, s)) {
            return STATE;
        }
        return club.putOn(b, s, o);
    }

    public int seat(int b, int s) {
        return club.hasSeat(b, s) ? club.whoSits(b, s) : NONE;
    }

    public int about(int o, int what) {
        if (!club.hasOar(o)) {
            return NONE;
        }
        switch (what) {
            case 0: return club.oarKind[o];
            case 1: return club.weight[o];
            case 2: return club.sick[o];
            case 3: return club.place[o];
            default: return NONE;
        }
    }

    // ---- seat races

    public int race(int x, int y, int by) {
        if (!club.hasOar(x) || !club.hasOar(y)) {
            return NONE;
        }
        if (x == y || !within(by, -MOST_BY, MOST_BY)) {
            return BAD;
        }
        return races.count < Races.MOST ? races.addRace(x, y, by) : FULL;
    }

    public int unrace() {
        if (races.count == 0) {
            return STATE;
        }
        races.count--;
        return races.count;
    }

    public int group(int o) {
        return club.hasOar(o) ? leastOf(races.groupOf(o)) : NONE;
    }

    public long strength(int o, int what) {
        if (!club.hasOar(o) || !races.solve(races.groupOf(o))) {
            return NO;
        }
        return partOf(races.above[o], races.below, what);
    }

    public long between(int x, int y, int what) {
        if (!club.hasOar(x) || !club.hasOar(y)) {
            return NO;
        }
        int all = races.groupOf(x);
        if (!has(all, y) || !races.solve(all)) {
            return NO;
        }
        return partOf(races.above[x] - races.above[y], races.below, what);
    }

    public long misfit(int o, int what) {
        if (!club.hasOar(o)) {
            return NO;
        }
        int all = races.groupOf(o);
        if (!races.solve(all)) {
            return NO;
        }
        return partOf(races.misfitAbove(all), races.below, what);
    }

    public int sure(int x, int y) {
        if (!club.hasOar(x) || !club.hasOar(y)) {
            return NONE;
        }
        return x == y ? BAD : races.whoIsSurelyBetter(x, y);
    }

    public int crew(int b, int hour, int does) {
        if (!club.hasBoat(b)) {
            return NONE;
        }
        if (!isHour(hour) || !within(does, 0, 1)) {
            return BAD;
        }
        int cost = plan.leastCost(club, b, hour);
        if (cost >= CrewPlan.TOO_FEW) {
            return STATE;
        }
        if (does == 1) {
            plan.seatThem(club, b, hour);
        }
        return cost;
    }

    // ---- the river

    public int water(int d, int stream, int wind) {
        if (!within(d, 0, River.DAYS - 1)) {
            return NONE;
        }
        if (!within(stream, 0, River.MOST_STREAM) || !within(wind, 0, River.MOST_WIND)) {
            return BAD;
        }
        river.stream[d] = stream;
        river.wind[d] = wind;
        return 0;
    }

    public int feed(long w, int n) {
        if (!within(n, 1, 8)) {
            return BAD;
        }
        return tape.length + n <= Tape.MOST ? tape.append(w, n) : FULL;
    }

    public int rule() {
        // FULL refuses the call: THE TAPE is then not even read, so no FAULT can be told ahead of it.
        if (rules.count >= RuleBook.MOST) {
            return FULL;
        }
        boolean isRule = rules.read(tape);
        tape.length = 0;
        return isRule ? rules.keepRead() : FAULT_BASE - tape.at;
    }

    public int ruled(int b, int hour) {
        if (!club.hasBoat(b)) {
            return NONE;
        }
        return isHour(hour) ? askedRule(b, hour) : BAD;
    }

    public int may(int b, int hour) {
        if (!club.hasBoat(b)) {
            return NONE;
        }
        return isHour(hour) ? whyAshore(b, hour) : BAD;
    }

    // ---- outings and looks

    public int day(int d) {
        if (!within(d, today, LAST_DAY)) {
            return BAD;
        }
        int was = today;
        today = d;
        return was;
    }

    public int out(int b, int hour) {
        if (!club.hasBoat(b)) {
            return NONE;
        }
        if (!isHour(hour)) {
            return BAD;
        }
        if (whyAshore(b, hour) != 0) {
            return STATE;
        }
        return log.outings < Logbook.MOST_OUTINGS ? log.addOuting(b, today, hour, club.aboard(b)) : FULL;
    }

    public int look(int b, int whole) {
        if (!club.hasBoat(b)) {
            return NONE;
        }
        if (!within(whole, 0, 1)) {
            return BAD;
        }
        return log.looks < Logbook.MOST_LOOKS ? log.addLook(b, whole) : FULL;
    }

    public int broke(int look, int what) {
        if (!within(look, 0, log.looks - 1) || !within(what, 0, 2)) {
            return NONE;
        }
        if (!log.brokeAt(look)) {
            return STATE;
        }
        if (what == 0) {
            return log.suspects(look);
        }
        int first = log.firstSuspect(look);
        return what == 1 || first == NONE ? first : log.who[first];
    }

    public int outing(int i, int what) {
        if (!within(i, 0, log.outings - 1)) {
            return NONE;
        }
        switch (what) {
            case 0: return log.outBoat[i];
            case 1: return log.outDay[i];
            case 2: return log.outHour[i];
            case 3: return log.who[i];
            default: return NONE;
        }
    }

    // ---- heats and trailers

    public int heat(int b, int minute) {
        if (!club.hasBoat(b)) {
            return NONE;
        }
        if (!within(minute, 0, LAST_MINUTE)) {
            return BAD;
        }
        return heats.count < Heats.MOST ? heats.addHeat(b, minute) : FULL;
    }

    public int near(int minutes) {
        if (!within(minutes, 0, MOST_NEAR)) {
            return BAD;
        }
        int was = heats.apart;
        heats.apart = minutes;
        return was;
    }

    public int clashes() {
        return heats.clashingPairs();
    }

    public int shift(int heat) {
        if (!within(heat, 0, heats.count - 1)) {
            return NONE;
        }
        int minute = heats.freeMinute(heat);
        return minute <= LAST_MINUTE ? minute : STATE;
    }

    public int trailer(int set, int length) {
        if ((set >>> club.boats) != 0 || !within(length, 1, MOST_ROW)) {
            return BAD;
        }
        int longest = racks.load(club.length, set, length);
        return longest <= length ? longest : STATE;
    }

    public int rack(int b) {
        return club.hasBoat(b) ? racks.rackOf[b] : NONE;
    }

    public int count(int what) {
        switch (what) {
            case 0: return club.oars;
            case 1: return club.boats;
            case 2: return races.count;
            case 3: return rules.count;
            case 4: return log.outings;
            case 5: return log.looks;
            case 6: return heats.count;
            case 7: return today;
            case 8: return tape.length;
            default: return NONE;
        }
    }

    // ---- what several of them need

    private static boolean within(int number, int least, int most) {
        return number >= least && number <= most;
    }

    private static boolean isHour(int hour) {
        return within(hour, 0, LAST_HOUR);
    }

    private static boolean has(int set, int member) {
        return (set >> member & 1) != 0;
    }

    private static int leastOf(int oars) {
        for (int o = 0; o < Club.MOST_OARS; o++) {
            if (has(oars, o)) {
                return o;
            }
        }
        return NONE;
    }

    /** What is above (0) or below (1) the line of a fraction without a common divisor; below is above 0. */
    private static long partOf(long above, long below, int what) {
        long divisor = commonDivisor(Math.abs(above), below);
        if (divisor == 0 || !within(what, 0, 1)) {
            return NO;
        }
        return (what == 0 ? above : below) / divisor;
    }

    private static long commonDivisor(long a, long b) {
        long big = a;
        long small = b;
        // Euclid's steps over longs are fewer than 100: each two of them halve the number.
        for (int step = 0; step < 200 && small != 0; step++) {
            long rest = big % small;
            big = small;
            small = rest;
        }
        return big;
    }

    /** The first reason of ASHORE, 0 if there is none. */
    private int whyAshore(int b, int hour) {
        if (log.isBroken(b)) {
            return 1;
        }
        if (!club.isManned(b)) {
            return 2;
        }
        if (!within(club.meanWeight(b), club.least[b], club.most[b])) {
            return 3;
        }
        if (!club.allMayBeOut(b, hour)) {
            return 4;
        }
        int asked = askedRule(b, hour);
        return asked != NONE && rules.bars[asked] == 1 ? 5 : 0;
    }

    private int askedRule(int b, int hour) {
        int month = today / River.DAYS % River.MONTHS;
        int stream = river.stream[today % River.DAYS];
        int[] now = rules.now;
        now[RuleBook.STREAM] = stream;
        now[RuleBook.WIND] = river.wind[today % River.DAYS];
        now[RuleBook.HOUR] = hour;
        now[RuleBook.MONTH] = month;
        now[RuleBook.SIZE] = club.seats(b);
        now[RuleBook.YOUNG] = club.isYoungAboard(b) ? 1 : 0;
        now[RuleBook.ICE] = month < 2 && stream < 10 ? 1 : 0;
        return rules.asked(club.boatKind[b]);
    }

    /** The OARS and BOATS, and who sits where. */
    private static final class Club {
        static final int MOST_OARS = 16;
        static final int MOST_BOATS = 8;
        static final int YOUNG = 4;
        static final int COX = 8;
        static final int SCULLS = 2;
        static final int MOST_COX_WEIGHT = 70;
        static final int FIRST_YOUNG_HOUR = 7;
        static final int FOUR = 1, EIGHT = 2;
        private static final int[] SEATS = {2, 4, 8, 1, 4};
        /** What each KIND of OAR (a row of three) DISLIKES the sides bow, stroke and sculls. */
        private static final int[] DISLIKES = {
            0, 2, 3,
            2, 0, 3,
            0, 0, 1,
            2, 2, 0,
            0, 0, 1,
        };

        int oars = 0;
        final int[] oarKind = new int[MOST_OARS];
        final int[] weight = new int[MOST_OARS];
        final int[] sick = new int[MOST_OARS];
        /** 10 times the BOAT and the SEAT, or NONE: held here alone, so nobody can sit twice. */
        final int[] place = new int[MOST_OARS];

        int boats = 0;
        final int[] boatKind = new int[MOST_BOATS];
        final int[] least = new int[MOST_BOATS];
        final int[] most = new int[MOST_BOATS];
        final int[] length = new int[MOST_BOATS];

        int addOar(int kind, int heavy) {
            oarKind[oars] = kind;
            weight[oars] = heavy;
            sick[oars] = 0;
            place[oars] = NONE;
            oars++;
            return oars - 1;
        }

        int addBoat(int kind, int lightest, int heaviest, int isLong) {
            boatKind[boats] = kind;
            least[boats] = lightest;
            most[boats] = heaviest;
            length[boats] = isLong;
            boats++;
            return boats - 1;
        }

        boolean hasOar(int o) {
            return o >= 0 && o < oars;
        }

        boolean hasBoat(int b) {
            return b >= 0 && b < boats;
        }

        boolean hasSeat(int b, int s) {
            if (!hasBoat(b)) {
                return false;
            }
            return s == COX ? hasCox(b) : within(s, 0, seats(b) - 1);
        }

        int seats(int b) {
            return SEATS[boatKind[b]];
        }

        boolean hasCox(int b) {
            return boatKind[b] == FOUR || boatKind[b] == EIGHT;
        }

        boolean sitsIn(int o, int b) {
            return place[o] != NONE && place[o] / 10 == b;
        }

        boolean isCox(int o) {
            return place[o] != NONE && place[o] % 10 == COX;
        }

        int whoSits(int b, int s) {
            for (int o = 0; o < oars; o++) {
                if (place[o] == 10 * b + s) {
                    return o;
                }
            }
            return NONE;
        }

        boolean maySit(int o, int s) {
            return sick[o] == 0 && (s != COX || weight[o] <= MOST_COX_WEIGHT);
        }

        /** Puts an OAR, or nobody (NONE), on a SEAT; tells who sat there. */
        int putOn(int b, int s, int o) {
            int before = whoSits(b, s);
            if (before != NONE) {
                place[before] = NONE;
            }
            if (o != NONE) {
                place[o] = 10 * b + s;
            }
            return before;
        }

        /** Who sits in a BOAT, the COX too, as bits. */
        int aboard(int b) {
            int bits = 0;
            for (int o = 0; o < oars; o++) {
                if (sitsIn(o, b)) {
                    bits |= 1 << o;
                }
            }
            return bits;
        }

        boolean isManned(int b) {
            return Integer.bitCount(aboard(b)) == seats(b) + (hasCox(b) ? 1 : 0);
        }

        int meanWeight(int b) {
            int sum = 0;
            for (int o = 0; o < oars; o++) {
                if (sitsIn(o, b) && !isCox(o)) {
                    sum += weight[o];
                }
            }
            int by = seats(b);
            return by > 0 ? sum / by : 0;
        }

        boolean mayBeOut(int o, int hour) {
            return sick[o] == 0 && (oarKind[o] != YOUNG || hour >= FIRST_YOUNG_HOUR);
        }

        boolean allMayBeOut(int b, int hour) {
            for (int o = 0; o < oars; o++) {
                if (sitsIn(o, b) && !mayBeOut(o, hour)) {
                    return false;
                }
            }
            return true;
        }

        boolean isYoungAboard(int b) {
            for (int o = 0; o < oars; o++) {
                if (sitsIn(o, b) && oarKind[o] == YOUNG) {
                    return true;
                }
            }
            return false;
        }

        int dislike(int o, int b, int s) {
            boolean sweeps = boatKind[b] <= EIGHT;
            int side = sweeps ? s % 2 : SCULLS;
            return DISLIKES[3 * oarKind[o] + side];
        }
    }

    /** The RACES, and what they tell. */
    private static final class Races {
        static final int MOST = 40;
        static final int MOST_IN_GROUP = 7;
        private static final int ROWS = MOST_IN_GROUP - 1;
        /** A column for each unknown STRENGTH, and the right side behind them. */
        private static final int COLUMNS = ROWS + 1;

        int count = 0;
        private final int[] first = new int[MOST];
        private final int[] second = new int[MOST];
        private final int[] lead = new int[MOST];

        /** The solved STRENGTHS: above[o] / below for each OAR of the GROUP. */
        final long[] above = new long[Club.MOST_OARS];
        long below = 1;
        private final int[] rowOf = new int[Club.MOST_OARS];
        private final long[] cells = new long[ROWS * COLUMNS];

        int addRace(int x, int y, int by) {
            first[count] = x;
            second[count] = y;
            lead[count] = by;
            count++;
            return count;
        }

        /** The GROUP of an OAR, as bits. */
        int groupOf(int o) {
            int all = 1 << o;
            // Each round but the last adds an OAR at least.
            for (int round = 0; round < Club.MOST_OARS; round++) {
                int before = all;
                for (int r = 0; r < count; r++) {
                    int both = 1 << first[r] | 1 << second[r];
                    if ((all & both) != 0) {
                        all |= both;
                    }
                }
                if (all == before) {
                    break;
                }
            }
            return all;
        }

        /** Solves the STRENGTHS of a GROUP; false if it has too many OARS. */
        boolean solve(int group) {
            int rows = Integer.bitCount(group) - 1;
            if (rows > ROWS) {
                return false;
            }
            numberRows(group);
            fillCells(group);
            if (!eliminate(rows)) {
                return false;
            }
            for (int o = 0; o < Club.MOST_OARS; o++) {
                above[o] = rowOf[o] >= 0 ? cells[rowOf[o] * COLUMNS + ROWS] : 0;
            }
            return true;
        }

        /** The least OAR of the GROUP has no row: its STRENGTH is known. */
        private void numberRows(int group) {
            int next = -1;
            for (int o = 0; o < Club.MOST_OARS; o++) {
                rowOf[o] = NONE;
                if (has(group, o)) {
                    rowOf[o] = next;
                    next++;
                }
            }
        }

        /** The least squares' equations: one for each STRENGTH that is not known. */
        private void fillCells(int group) {
            Arrays.fill(cells, 0L);
            for (int r = 0; r < count; r++) {
                if (has(group, first[r])) {
                    int x = rowOf[first[r]];
                    int y = rowOf[second[r]];
                    addToRow(x, y, lead[r]);
                    addToRow(y, x, -lead[r]);
                }
            }
        }

        private void addToRow(int row, int other, int by) {
            if (row < 0) {
                return;
            }
            cells[row * COLUMNS + row]++;
            cells[row * COLUMNS + ROWS] += by;
            if (other >= 0) {
                cells[row * COLUMNS + other]--;
            }
        }

        /**
         * Gauss and Jordan's way without fractions: each cell stays a minor of the first matrix, so
         * the division leaves no rest and all stays far below a long's end. The pivots are leading
         * minors of a GROUP that hangs together: never 0, so no rows are swapped.
         */
        private boolean eliminate(int rows) {
            long last = 1;
            for (int k = 0; k < rows; k++) {
                long pivot = cells[k * COLUMNS + k];
                if (pivot <= 0) {
                    return false;
                }
                for (int i = 0; i < rows; i++) {
                    if (i != k) {
                        clearCell(i, k, pivot, last);
                    }
                }
                last = pivot;
            }
            below = last;
            return true;
        }

        private void clearCell(int i, int k, long pivot, long last) {
            if (last == 0) {
                return;
            }
            long factor = cells[i * COLUMNS + k];
            for (int j = 0; j < COLUMNS; j++) {
                long crossed = pivot * cells[i * COLUMNS + j] - factor * cells[k * COLUMNS + j];
                cells[i * COLUMNS + j] = crossed / last;
            }
        }

        /** What is above the line of the MISFIT of the solved GROUP; below is the STRENGTHS' own. */
        long misfitAbove(int group) {
            long sum = 0;
            for (int r = 0; r < count; r++) {
                if (has(group, first[r])) {
                    sum += Math.abs(above[first[r]] - above[second[r]] - lead[r] * below);
                }
            }
            return sum;
        }

        int whoIsSurelyBetter(int x, int y) {
            boolean better = false;
            boolean worse = false;
            for (int r = 0; r < count; r++) {
                int by = leadOver(x, y, r);
                better |= by > 0;
                worse |= by < 0;
            }
            if (better == worse) {
                return 0;
            }
            return better ? 1 : 2;
        }

        /** By how much x led y in a RACE: 0 if it was not theirs. */
        private int leadOver(int x, int y, int r) {
            if (first[r] == x && second[r] == y) {
                return lead[r];
            }
            return first[r] == y && second[r] == x ? -lead[r] : 0;
        }
    }

    /** Fills a BOAT at the least cost: what the OARS from o on cost to fill a set of SEATS. */
    private static final class CrewPlan {
        /** Above every sum: 8 SEATS cost 8 each at most. */
        static final int TOO_FEW = 1000;
        private static final int MOST_SEATS = 8;
        private static final int SETS = 1 << MOST_SEATS;
        private static final int MOVED = 4, CALLED = 5;

        /** Row o, column set: the least cost at which the OARS from o on fill this set of SEATS. */
        private final int[] costs = new int[(Club.MOST_OARS + 1) * SETS];
        private final int[] price = new int[MOST_SEATS];
        private final int[] chosen = new int[Club.MOST_OARS];

        int leastCost(Club club, int b, int hour) {
            int all = (1 << club.seats(b)) - 1;
            int end = club.oars * SETS;
            for (int set = 0; set <= all; set++) {
                costs[end + set] = set == 0 ? 0 : TOO_FEW;
            }
            for (int o = club.oars - 1; o >= 0; o--) {
                fillRow(club, b, hour, o);
            }
            return costs[all];
        }

        private void fillRow(Club club, int b, int hour, int o) {
            int seats = club.seats(b);
            int row = o * SETS;
            int next = row + SETS;
            System.arraycopy(costs, next, costs, row, 1 << seats);
            if (!isFree(club, b, hour, o)) {
                return;
            }
            setPrices(club, b, o);
            for (int set = 1; set < 1 << seats; set++) {
                int best = costs[next + set];
                for (int s = 0; s < seats; s++) {
                    if (has(set, s)) {
                        best = Math.min(best, costs[next + (set ^ 1 << s)] + price[s]);
                    }
                }
                costs[row + set] = best;
            }
        }

        private static boolean isFree(Club club, int b, int hour, int o) {
            if (!club.mayBeOut(o, hour) || club.isCox(o)) {
                return false;
            }
            return club.place[o] == NONE || club.sitsIn(o, b);
        }

        private void setPrices(Club club, int b, int o) {
            int move = club.sitsIn(o, b) ? MOVED : CALLED;
            for (int s = 0; s < club.seats(b); s++) {
                boolean hasIt = club.place[o] == 10 * b + s;
                price[s] = (hasIt ? 0 : move) + club.dislike(o, b, s);
            }
        }

        /** Seats the crew that leastCost has just weighed; it must not have been too dear. */
        void seatThem(Club club, int b, int hour) {
            int open = (1 << club.seats(b)) - 1;
            for (int o = 0; o < club.oars; o++) {
                chosen[o] = NONE;
                if (isFree(club, b, hour, o)) {
                    setPrices(club, b, o);
                    chosen[o] = choose(o, open, club.seats(b));
                }
                if (chosen[o] != NONE) {
                    open ^= 1 << chosen[o];
                }
            }
            for (int o = 0; o < club.oars; o++) {
                if (chosen[o] != NONE) {
                    club.place[o] = 10 * b + chosen[o];
                } else if (club.sitsIn(o, b) && !club.isCox(o)) {
                    club.place[o] = NONE;
                }
            }
        }

        /** The least SEAT with which an OAR is in a cheapest crew; NONE if it is in none. */
        private int choose(int o, int open, int seats) {
            int row = o * SETS;
            for (int s = 0; s < seats; s++) {
                if (has(open, s) && costs[row + SETS + (open ^ 1 << s)] + price[s] == costs[row + open]) {
                    return s;
                }
            }
            return NONE;
        }
    }

    /** The WATERS. */
    private static final class River {
        static final int DAYS = 30;
        static final int MONTHS = 12;
        static final int MOST_STREAM = 200;
        static final int MOST_WIND = 12;

        final int[] stream = new int[DAYS];
        final int[] wind = new int[DAYS];
    }

    /** THE TAPE, and the place up to which it has been read. */
    private static final class Tape {
        static final int MOST = 120;
        private static final int MOST_DIGITS = 3;

        int length = 0;
        int at = 0;
        private final int[] bytes = new int[MOST];

        int append(long w, int n) {
            for (int i = n - 1; i >= 0; i--) {
                bytes[length] = (int) (w >>> 8 * i & 0xFF);
                length++;
            }
            return length;
        }

        boolean isAtEnd() {
            return at >= length;
        }

        /**
         * Reads one of the words, which | parts, none the beginning of another: tells which one. If it
         * is none of them: NONE, and the place is that of the first byte with which no word goes on.
         */
        int takeWord(String words) {
            int nth = 0;
            int start = 0;
            int furthest = 0;
            for (int end = 0; end <= words.length(); end++) {
                if (end == words.length() || words.charAt(end) == '|') {
                    int same = countSame(words, start, end);
                    if (same == end - start) {
                        at += same;
                        return nth;
                    }
                    furthest = Math.max(furthest, same);
                    start = end + 1;
                    nth++;
                }
            }
            at += furthest;
            return NONE;
        }

        private int countSame(String words, int start, int end) {
            int same = 0;
            for (int i = start; i < end && at + same < length; i++) {
                if (bytes[at + same] != words.charAt(i)) {
                    break;
                }
                same++;
            }
            return same;
        }

        boolean skip(char sign) {
            if (isAtEnd() || bytes[at] != sign) {
                return false;
            }
            at++;
            return true;
        }

        /** Reads a number of 1 to 3 digits; NONE if there is no digit. */
        int takeNumber() {
            int number = NONE;
            for (int i = 0; i < MOST_DIGITS && at < length && within(bytes[at], '0', '9'); i++) {
                number = 10 * Math.max(number, 0) + bytes[at] - '0';
                at++;
            }
            return number;
        }
    }

    /** The RULES. */
    private static final class RuleBook {
        static final int MOST = 10;
        static final int STREAM = 0, WIND = 1, HOUR = 2, MONTH = 3, SIZE = 4, YOUNG = 5, ICE = 6;
        private static final int FIELDS = 7;
        private static final int MOST_TESTS = 3;
        private static final int ANY_KIND = 5;
        private static final String VERBS = "let |bar ";
        private static final String BOAT_KINDS = "pair|four|eight|single|quad|*";
        private static final String FIELD_NAMES = "stream|wind|hour|month|size|young|ice";
        private static final String SIGNS = "=|<|>";
        private static final int EQUAL = 0, BELOW = 1;

        int count = 0;
        final int[] bars = new int[MOST];
        private final int[] kind = new int[MOST];
        private final int[] tests = new int[MOST];
        private final boolean[] denied = new boolean[MOST * MOST_TESTS];
        private final int[] field = new int[MOST * MOST_TESTS];
        private final int[] sign = new int[MOST * MOST_TESTS];
        private final int[] number = new int[MOST * MOST_TESTS];
        /** What each FIELD is at the time of asking. */
        final int[] now = new int[FIELDS];

        /** Reads THE TAPE into the row behind the last; only if not FULL. No RULE: the tape's place is the FAULT. */
        boolean read(Tape tape) {
            tape.at = 0;
            tests[count] = 0;
            bars[count] = tape.takeWord(VERBS);
            if (bars[count] == NONE) {
                return false;
            }
            kind[count] = tape.takeWord(BOAT_KINDS);
            if (kind[count] == NONE) {
                return false;
            }
            if (tape.isAtEnd()) {
                return true;
            }
            return tape.takeWord(" if ") != NONE && readTests(tape);
        }

        private boolean readTests(Tape tape) {
            for (int t = 0; t < MOST_TESTS; t++) {
                if (!readTest(tape, count * MOST_TESTS + t)) {
                    return false;
                }
                tests[count] = t + 1;
                if (tape.isAtEnd()) {
                    return true;
                }
                // Behind the third TEST nothing may come: its & is the FAULT too.
                if (t == MOST_TESTS - 1 || !tape.skip('&')) {
                    return false;
                }
            }
            return false;
        }

        private boolean readTest(Tape tape, int i) {
            denied[i] = tape.skip('!');
            field[i] = tape.takeWord(FIELD_NAMES);
            if (field[i] == NONE) {
                return false;
            }
            sign[i] = tape.takeWord(SIGNS);
            if (sign[i] == NONE) {
                return false;
            }
            number[i] = tape.takeNumber();
            return number[i] != NONE;
        }

        /** Makes the row that has been read a RULE. */
        int keepRead() {
            count++;
            return count - 1;
        }

        /** The RULE that is ASKED for a BOAT of this KIND as things are now; NONE. */
        int asked(int boatKind) {
            for (int r = count - 1; r >= 0; r--) {
                if ((kind[r] == boatKind || kind[r] == ANY_KIND) && testsHold(r)) {
                    return r;
                }
            }
            return NONE;
        }

        private boolean testsHold(int r) {
            for (int t = 0; t < tests[r]; t++) {
                int i = r * MOST_TESTS + t;
                if (isSo(i) == denied[i]) {
                    return false;
                }
            }
            return true;
        }

        private boolean isSo(int i) {
            int value = now[field[i]];
            if (sign[i] == EQUAL) {
                return value == number[i];
            }
            return sign[i] == BELOW ? value < number[i] : value > number[i];
        }
    }

    /** The OUTINGS and LOOKS. */
    private static final class Logbook {
        static final int MOST_OUTINGS = 30;
        static final int MOST_LOOKS = 60;

        int outings = 0;
        final int[] outBoat = new int[MOST_OUTINGS];
        final int[] outDay = new int[MOST_OUTINGS];
        final int[] outHour = new int[MOST_OUTINGS];
        final int[] who = new int[MOST_OUTINGS];

        int looks = 0;
        private final int[] lookBoat = new int[MOST_LOOKS];
        private final int[] wasWhole = new int[MOST_LOOKS];
        /** How many OUTINGS there were ahead of the LOOK. */
        private final int[] ahead = new int[MOST_LOOKS];

        int addOuting(int b, int day, int hour, int crew) {
            outBoat[outings] = b;
            outDay[outings] = day;
            outHour[outings] = hour;
            who[outings] = crew;
            outings++;
            return outings - 1;
        }

        int addLook(int b, int whole) {
            lookBoat[looks] = b;
            wasWhole[looks] = whole;
            ahead[looks] = outings;
            looks++;
            return looks - 1;
        }

        /** The latest LOOK at a BOAT below a number; NONE. */
        private int latestLook(int b, int end) {
            for (int l = end - 1; l >= 0; l--) {
                if (lookBoat[l] == b) {
                    return l;
                }
            }
            return NONE;
        }

        boolean isBroken(int b) {
            int latest = latestLook(b, looks);
            return latest != NONE && wasWhole[latest] == 0;
        }

        boolean brokeAt(int l) {
            int before = latestLook(lookBoat[l], l);
            return wasWhole[l] == 0 && (before == NONE || wasWhole[before] == 1);
        }

        /** The first OUTING that came behind the LOOK ahead of this one at the same BOAT. */
        private int firstBehind(int l) {
            int before = latestLook(lookBoat[l], l);
            return before == NONE ? 0 : ahead[before];
        }

        /** How many OUTINGS there are in which the BOAT of a LOOK may have BROKEN. */
        int suspects(int l) {
            int found = 0;
            for (int i = firstBehind(l); i < ahead[l]; i++) {
                if (outBoat[i] == lookBoat[l]) {
                    found++;
                }
            }
            return found;
        }

        int firstSuspect(int l) {
            for (int i = firstBehind(l); i < ahead[l]; i++) {
                if (outBoat[i] == lookBoat[l]) {
                    return i;
                }
            }
            return NONE;
        }
    }

    /** The HEATS. */
    private static final class Heats {
        static final int MOST = 20;

        int count = 0;
        int apart = 30;
        private final int[] boatOf = new int[MOST];
        private final int[] start = new int[MOST];

        int addHeat(int b, int minute) {
            boatOf[count] = b;
            start[count] = minute;
            count++;
            return count - 1;
        }

        /**
         * Whether a HEAT, were it at this minute, would CLASH with another one. Nobody sits in two
         * BOATS, so only two HEATS of one BOAT can share somebody.
         */
        private boolean wouldClash(int h, int minute, int other) {
            return h != other && boatOf[h] == boatOf[other] && Math.abs(minute - start[other]) < apart;
        }

        int clashingPairs() {
            int pairs = 0;
            for (int i = 0; i < count; i++) {
                for (int j = 0; j < i; j++) {
                    if (wouldClash(i, start[i], j)) {
                        pairs++;
                    }
                }
            }
            return pairs;
        }

        /** The least minute from its own on at which a HEAT would CLASH with none, perhaps past the day. */
        int freeMinute(int h) {
            int minute = start[h];
            // A HEAT that has been passed never clashes again: so many rounds as HEATS are enough.
            for (int round = 0; round < count; round++) {
                int other = firstClash(h, minute);
                if (other == NONE) {
                    break;
                }
                minute = start[other] + apart;
            }
            return minute;
        }

        private int firstClash(int h, int minute) {
            for (int other = 0; other < count; other++) {
                if (wouldClash(h, minute, other)) {
                    return other;
                }
            }
            return NONE;
        }
    }

    /** The TRAILER's racks. */
    private static final class Racks {
        private static final int MOST = 3;

        /** The rack of each BOAT in the latest load that was possible; NONE. */
        final int[] rackOf = new int[Club.MOST_BOATS];
        private final int[] trial = new int[Club.MOST_BOATS];
        private final int[] row = new int[MOST];
        private int best = 0;

        Racks() {
            Arrays.fill(rackOf, NONE);
        }

        /** Loads a set of BOATS: the longest row; more than the limit, and nothing laid, if there is no way. */
        int load(int[] lengths, int set, int limit) {
            Arrays.fill(trial, NONE);
            Arrays.fill(row, 0);
            best = limit + 1;
            lay(this, lengths, set, 0);
            return best;
        }

        /**
         * Tries the racks for the BOATS from b on. The ways come in the order of the document, so only
         * a way with a shorter longest row takes the place of one that was found.
         */
        private static void lay(Racks racks, int[] lengths, int set, int b) {
            int longest = racks.longestRow();
            if (longest >= racks.best) {
                return;
            }
            if (b >= Club.MOST_BOATS) {
                racks.best = longest;
                System.arraycopy(racks.trial, 0, racks.rackOf, 0, Club.MOST_BOATS);
                return;
            }
            if (!has(set, b)) {
                lay(racks, lengths, set, b + 1);
                return;
            }
            for (int r = 0; r < MOST; r++) {
                racks.trial[b] = r;
                racks.row[r] += lengths[b];
                lay(racks, lengths, set, b + 1);
                racks.row[r] -= lengths[b];
            }
        }

        private int longestRow() {
            return Math.max(row[0], Math.max(row[1], row[2]));
        }
    }
}
