import java.math.BigInteger;
import java.util.ArrayList;
import java.util.Arrays;
import java.util.HashMap;
import java.util.HashSet;
import java.util.List;
import java.util.Map;
import java.util.Set;
import java.util.TreeMap;
import java.util.TreeSet;
import java.util.regex.Matcher;
import java.util.regex.Pattern;

/**
 * The document once more, sentence by sentence and as slow as it likes: what each call is due to answer. It
 * shares no way of solving with the class: determinants for the STRENGTHS, the Hungarian way for a CREW, a
 * regular expression for a RULE, every minute for a HEAT, every load for a TRAILER.
 */
final class PlainClub {
    private static final int NONE = -1, BAD = -2, STATE = -3, FULL = -4, NO_SUCH = -5;
    private static final long NO = Long.MIN_VALUE;
    private static final int YOUNG = 4, COX = 8;
    private static final int[] SEATS = {2, 4, 8, 1, 4};
    private static final List<String> KIND_NAMES = List.of("pair", "four", "eight", "single", "quad");
    private static final Pattern ONE_TEST = Pattern.compile(Grammar.TEST);

    private record Oar(int kind, int weight) { }

    private record Boat(int kind, int least, int most, int length) { }

    private record Race(int x, int y, int by) { }

    private record Heat(int boat, int minute) { }

    /** What befell a BOAT, as it came: an OUTING (number, DAY, hour, who) or a LOOK (number, whole). */
    private record Event(boolean isLook, int number, int boat, int[] told) { }

    private final List<Oar> oars = new ArrayList<>();
    private final Set<Integer> ill = new HashSet<>();
    private final List<Boat> boats = new ArrayList<>();
    /** 10 times the BOAT and the SEAT: the OAR. */
    private final Map<Integer, Integer> sitting = new TreeMap<>();
    private final List<Race> races = new ArrayList<>();
    private final int[] streams = new int[30];
    private final int[] winds = new int[30];
    private final StringBuilder tape = new StringBuilder();
    private final List<String> rules = new ArrayList<>();
    private final List<Event> events = new ArrayList<>();
    private final List<Heat> heats = new ArrayList<>();
    private final Map<Integer, Integer> racks = new HashMap<>();
    private int near = 30;
    private int today = 0;

    private static boolean outside(int number, int least, int most) {
        return number < least || number > most;
    }

    private boolean noOar(int o) {
        return outside(o, 0, oars.size() - 1);
    }

    private boolean noBoat(int b) {
        return outside(b, 0, boats.size() - 1);
    }

    private boolean noSeat(int b, int s) {
        return noBoat(b) || !seatsAndCox(b).contains(s);
    }

    private List<Integer> seatsOf(int b) {
        List<Integer> all = new ArrayList<>();
        for (int s = 0; s < SEATS[boats.get(b).kind]; s++) {
            all.add(s);
        }
        return all;
    }

    private List<Integer> seatsAndCox(int b) {
        List<Integer> all = seatsOf(b);
        if (boats.get(b).kind == 1 || boats.get(b).kind == 2) {
            all.add(COX);
        }
        return all;
    }

    // ---- oars and boats

    int oar(int kind, int weight) {
        if (outside(kind, 0, 4) || outside(weight, 30, 150)) {
            return BAD;
        }
        if (oars.size() == 16) {
            return FULL;
        }
        oars.add(new Oar(kind, weight));
        return oars.size() - 1;
    }

    int boat(int kind, int least, int most, int length) {
        if (outside(kind, 0, 4) || outside(least, 30, 150) || outside(most, 30, 150) || least > most
            || outside(length, 1, 99)) {
            return BAD;
        }
        if (boats.size() == 8) {
            return FULL;
        }
        boats.add(new Boat(kind, least, most, length));
        return boats.size() - 1;
    }

    int ill(int o, int is) {
        if (noOar(o)) {
            return NONE;
        }
        if (outside(is, 0, 1)) {
            return BAD;
        }
        boolean was = is == 1 ? !ill.add(o) : ill.remove(o);
        return was ? 1 : 0;
    }

    int sit(int b, int s, int o) {
        if (noSeat(b, s) || o != -1 && noOar(o)) {
            return NO_SUCH;
        }
        if (o != -1 && (ill.contains(o) || s == COX && oars.get(o).weight > 70)) {
            return STATE;
        }
        Integer was = sitting.remove(10 * b + s);
        if (o != -1) {
            sitting.values().remove(o);
            sitting.put(10 * b + s, o);
        }
        return was == null ? NONE : was;
    }

    int seat(int b, int s) {
        return noSeat(b, s) ? NONE : sitting.getOrDefault(10 * b + s, NONE);
    }

    int about(int o, int what) {
        if (noOar(o) || outside(what, 0, 3)) {
            return NONE;
        }
        return List.of(oars.get(o).kind, oars.get(o).weight, ill.contains(o) ? 1 : 0, placeOf(o)).get(what);
    }

    private int placeOf(int o) {
        for (Map.Entry<Integer, Integer> seat : sitting.entrySet()) {
            if (seat.getValue() == o) {
                return seat.getKey();
            }
        }
        return NONE;
    }

    private Set<Integer> whoSitsIn(int b) {
        Set<Integer> all = new TreeSet<>();
        for (int s : seatsAndCox(b)) {
            if (seat(b, s) != NONE) {
                all.add(seat(b, s));
            }
        }
        return all;
    }

    // ---- seat races

    int race(int x, int y, int by) {
        if (noOar(x) || noOar(y)) {
            return NONE;
        }
        if (x == y || outside(by, -999, 999)) {
            return BAD;
        }
        if (races.size() == 40) {
            return FULL;
        }
        races.add(new Race(x, y, by));
        return races.size();
    }

    int unrace() {
        if (races.isEmpty()) {
            return STATE;
        }
        races.remove(races.size() - 1);
        return races.size();
    }

    private List<Integer> groupOf(int o) {
        Set<Integer> all = new TreeSet<>(Set.of(o));
        for (int size = 0; size < all.size();) {
            size = all.size();
            for (Race r : races) {
                if (all.contains(r.x) || all.contains(r.y)) {
                    all.addAll(List.of(r.x, r.y));
                }
            }
        }
        return new ArrayList<>(all);
    }

    int group(int o) {
        return noOar(o) ? NONE : groupOf(o).get(0);
    }

    /** What every STRENGTH of a GROUP is above the line; the last one is what all are below it (Cramer's rule). */
    private List<BigInteger> strengthsOf(List<Integer> group) {
        int n = group.size() - 1;
        long[][] sides = new long[n][n];
        long[] right = new long[n];
        for (Race r : races) {
            int x = group.indexOf(r.x) - 1;
            int y = group.indexOf(r.y) - 1;
            for (int turn = 0; turn < 2 && group.contains(r.x); turn++) {
                int here = turn == 0 ? x : y;
                int there = turn == 0 ? y : x;
                if (here >= 0) {
                    sides[here][here]++;
                    right[here] += turn == 0 ? r.by : -r.by;
                }
                if (here >= 0 && there >= 0) {
                    sides[here][there]--;
                }
            }
        }
        List<BigInteger> all = new ArrayList<>(List.of(BigInteger.ZERO));
        for (int column = 0; column <= n; column++) {
            long[][] changed = new long[n][];
            for (int i = 0; i < n; i++) {
                changed[i] = sides[i].clone();
                if (column < n) {
                    changed[i][column] = right[i];
                }
            }
            all.add(determinant(changed, 0, 0));
        }
        return all;
    }

    private static BigInteger determinant(long[][] m, int row, int usedColumns) {
        if (row == m.length) {
            return BigInteger.ONE;
        }
        BigInteger sum = BigInteger.ZERO;
        int sign = 1;
        for (int column = 0; column < m.length; column++) {
            if ((usedColumns >> column & 1) == 0) {
                if (m[row][column] != 0) {
                    BigInteger rest = determinant(m, row + 1, usedColumns | 1 << column);
                    sum = sum.add(rest.multiply(BigInteger.valueOf(sign * m[row][column])));
                }
                sign = -sign;
            }
        }
        return sum;
    }

    private static long part(BigInteger above, BigInteger below, int what) {
        BigInteger divisor = above.gcd(below);
        return (what == 0 ? above : below).divide(divisor).longValueExact();
    }

    private boolean hasNoStrength(int o, int what) {
        return noOar(o) || outside(what, 0, 1) || groupOf(o).size() > 7;
    }

    long strength(int o, int what) {
        if (hasNoStrength(o, what)) {
            return NO;
        }
        List<Integer> group = groupOf(o);
        List<BigInteger> strengths = strengthsOf(group);
        return part(strengths.get(group.indexOf(o)), strengths.get(group.size()), what);
    }

    long between(int x, int y, int what) {
        if (hasNoStrength(x, what) || hasNoStrength(y, what) || group(x) != group(y)) {
            return NO;
        }
        List<Integer> group = groupOf(x);
        List<BigInteger> strengths = strengthsOf(group);
        BigInteger less = strengths.get(group.indexOf(x)).subtract(strengths.get(group.indexOf(y)));
        return part(less, strengths.get(group.size()), what);
    }

    long misfit(int o, int what) {
        if (hasNoStrength(o, what)) {
            return NO;
        }
        List<Integer> group = groupOf(o);
        List<BigInteger> strengths = strengthsOf(group);
        BigInteger below = strengths.get(group.size());
        BigInteger sum = BigInteger.ZERO;
        for (Race r : races) {
            if (group.contains(r.x)) {
                BigInteger less = strengths.get(group.indexOf(r.x)).subtract(strengths.get(group.indexOf(r.y)));
                sum = sum.add(less.subtract(below.multiply(BigInteger.valueOf(r.by))).abs());
            }
        }
        return part(sum, below, what);
    }

    int sure(int x, int y) {
        if (noOar(x) || noOar(y)) {
            return NONE;
        }
        if (x == y) {
            return BAD;
        }
        boolean xIs = races.contains(better(x, y));
        boolean yIs = races.contains(better(y, x));
        return xIs && !yIs ? 1 : yIs && !xIs ? 2 : 0;
    }

    /** Some RACE in which x was better than y; one of nobody, if there is none. */
    private Race better(int x, int y) {
        for (Race r : races) {
            if (r.x == x && r.y == y && r.by > 0 || r.x == y && r.y == x && r.by < 0) {
                return r;
            }
        }
        return new Race(NONE, NONE, 0);
    }

    // ---- crews

    private static final int NEVER = 10_000;

    int crew(int b, int hour, int does) {
        if (noBoat(b)) {
            return NONE;
        }
        if (outside(hour, 0, 23) || outside(does, 0, 1)) {
            return BAD;
        }
        int seats = seatsOf(b).size();
        int[][] costs = new int[seats][oars.size()];
        for (int s = 0; s < seats; s++) {
            for (int o = 0; o < oars.size(); o++) {
                costs[s][o] = mayTakeASeat(o, b, hour) ? costOf(o, b, s) : NEVER;
            }
        }
        int least = leastSum(costs);
        if (least >= NEVER) {
            return STATE;
        }
        if (does == 1) {
            seatThem(b, costs, least);
        }
        return least;
    }

    private boolean mayTakeASeat(int o, int b, int hour) {
        int place = placeOf(o);
        boolean elsewhere = place != NONE && place / 10 != b;
        return mayBeOut(o, hour) && !elsewhere && place != 10 * b + COX;
    }

    private boolean mayBeOut(int o, int hour) {
        return !ill.contains(o) && !(oars.get(o).kind == YOUNG && hour < 7);
    }

    private int costOf(int o, int b, int s) {
        int place = placeOf(o);
        int move = place == 10 * b + s ? 0 : place != NONE && place / 10 == b ? 4 : 5;
        return move + dislike(oars.get(o).kind, boats.get(b).kind, s);
    }

    private static int dislike(int kind, int boatKind, int s) {
        boolean sculls = boatKind == 3 || boatKind == 4;
        switch (kind) {
            case 0: return sculls ? 3 : s % 2 == 0 ? 0 : 2;
            case 1: return sculls ? 3 : s % 2 == 1 ? 0 : 2;
            case 3: return sculls ? 0 : 2;
            default: return sculls ? 1 : 0;
        }
    }

    /** Takes the OARS in turn, each to the least SEAT with which the sum stays the least. */
    private void seatThem(int b, int[][] costs, int least) {
        Map<Integer, Integer> chosen = new HashMap<>();
        int[][] now = costs;
        for (int o = 0; o < oars.size(); o++) {
            int[][] next = null;
            for (int s = 0; s < costs.length && next == null; s++) {
                int[][] forced = force(now, s, o);
                if (forced[s][o] < NEVER && leastSum(forced) == least) {
                    chosen.put(10 * b + s, o);
                    next = forced;
                }
            }
            now = next == null ? force(now, NONE, o) : next;
        }
        sitting.keySet().removeIf(place -> place / 10 == b && place % 10 != COX);
        sitting.putAll(chosen);
    }

    /** The costs, if an OAR has to take this SEAT, and nobody else may; or none, if s is NONE. */
    private static int[][] force(int[][] costs, int s, int o) {
        int[][] forced = new int[costs.length][];
        for (int r = 0; r < costs.length; r++) {
            forced[r] = costs[r].clone();
            if (r == s) {
                Arrays.fill(forced[r], NEVER);
                forced[r][o] = costs[r][o];
            } else {
                forced[r][o] = NEVER;
            }
        }
        return forced;
    }

    /** The least sum of one OAR for each SEAT, the Hungarian way. */
    private static int leastSum(int[][] costs) {
        int n = costs.length;
        int m = costs[0].length;
        if (m < n) {
            return NEVER;
        }
        int[] u = new int[n + 1];
        int[] v = new int[m + 1];
        int[] taken = new int[m + 1];
        for (int i = 1; i <= n; i++) {
            int[] way = new int[m + 1];
            int[] slack = new int[m + 1];
            boolean[] seen = new boolean[m + 1];
            Arrays.fill(slack, Integer.MAX_VALUE);
            taken[0] = i;
            int at = 0;
            do {
                seen[at] = true;
                int row = taken[at];
                int best = Integer.MAX_VALUE;
                int next = 0;
                for (int j = 1; j <= m; j++) {
                    int reduced = costs[row - 1][j - 1] - u[row] - v[j];
                    if (!seen[j] && reduced < slack[j]) {
                        slack[j] = reduced;
                        way[j] = at;
                    }
                    if (!seen[j] && slack[j] < best) {
                        best = slack[j];
                        next = j;
                    }
                }
                for (int j = 0; j <= m; j++) {
                    if (seen[j]) {
                        u[taken[j]] += best;
                        v[j] -= best;
                    } else {
                        slack[j] -= best;
                    }
                }
                at = next;
            } while (taken[at] != 0);
            while (at != 0) {
                taken[at] = taken[way[at]];
                at = way[at];
            }
        }
        return -v[0];
    }

    // ---- the river

    int water(int d, int stream, int wind) {
        if (outside(d, 0, 29)) {
            return NONE;
        }
        if (outside(stream, 0, 200) || outside(wind, 0, 12)) {
            return BAD;
        }
        streams[d] = stream;
        winds[d] = wind;
        return 0;
    }

    int feed(long w, int n) {
        if (outside(n, 1, 8)) {
            return BAD;
        }
        if (tape.length() + n > 120) {
            return FULL;
        }
        String hex = String.format("%016x", w);
        for (int i = 8 - n; i < 8; i++) {
            tape.append((char) Integer.parseInt(hex.substring(2 * i, 2 * i + 2), 16));
        }
        return tape.length();
    }

    int rule() {
        if (rules.size() == 10) {
            return FULL;
        }
        String text = tape.toString();
        tape.setLength(0);
        if (!Grammar.isRule(text)) {
            return -10 - Grammar.faultOf(text);
        }
        rules.add(text);
        return rules.size() - 1;
    }

    int ruled(int b, int hour) {
        if (noBoat(b)) {
            return NONE;
        }
        if (outside(hour, 0, 23)) {
            return BAD;
        }
        int last = NONE;
        for (int r = 0; r < rules.size(); r++) {
            last = holds(rules.get(r), b, hour) ? r : last;
        }
        return last;
    }

    private boolean holds(String text, int b, int hour) {
        String kind = text.split(" ")[1];
        boolean all = kind.equals("*") || kind.equals(KIND_NAMES.get(boats.get(b).kind));
        Matcher tests = ONE_TEST.matcher(text);
        while (tests.find()) {
            int value = fieldOf(tests.group(2), b, hour);
            int number = Integer.parseInt(tests.group(4));
            String is = value < number ? "<" : value > number ? ">" : "=";
            boolean so = is.equals(tests.group(3));
            all &= tests.group(1).isEmpty() ? so : !so;
        }
        return all;
    }

    private int fieldOf(String name, int b, int hour) {
        int month = (today / 30) % 12;
        int stream = streams[today % 30];
        switch (name) {
            case "stream": return stream;
            case "wind": return winds[today % 30];
            case "hour": return hour;
            case "month": return month;
            case "size": return seatsOf(b).size();
            case "young": return whoSitsIn(b).stream().anyMatch(o -> oars.get(o).kind == YOUNG) ? 1 : 0;
            default: return month < 2 && stream < 10 ? 1 : 0;
        }
    }

    int may(int b, int hour) {
        if (noBoat(b)) {
            return NONE;
        }
        if (outside(hour, 0, 23)) {
            return BAD;
        }
        if (isBroken(b)) {
            return 1;
        }
        int weights = 0;
        for (int s : seatsAndCox(b)) {
            if (seat(b, s) == NONE) {
                return 2;
            }
            weights += s == COX ? 0 : oars.get(seat(b, s)).weight;
        }
        int mean = weights / seatsOf(b).size();
        if (mean < boats.get(b).least || mean > boats.get(b).most) {
            return 3;
        }
        if (!whoSitsIn(b).stream().allMatch(o -> mayBeOut(o, hour))) {
            return 4;
        }
        int asked = ruled(b, hour);
        return asked != NONE && rules.get(asked).startsWith("bar") ? 5 : 0;
    }

    // ---- outings and looks

    int day(int d) {
        if (outside(d, today, 999)) {
            return BAD;
        }
        int was = today;
        today = d;
        return was;
    }

    private List<Event> all(boolean looks) {
        return events.stream().filter(e -> e.isLook == looks).toList();
    }

    int out(int b, int hour) {
        if (may(b, hour) < 0) {
            return may(b, hour);
        }
        if (may(b, hour) != 0) {
            return STATE;
        }
        int number = all(false).size();
        if (number == 30) {
            return FULL;
        }
        int who = 0;
        for (int o : whoSitsIn(b)) {
            who += 1 << o;
        }
        events.add(new Event(false, number, b, new int[] {b, today, hour, who}));
        return number;
    }

    int look(int b, int whole) {
        if (noBoat(b)) {
            return NONE;
        }
        if (outside(whole, 0, 1)) {
            return BAD;
        }
        int number = all(true).size();
        if (number == 60) {
            return FULL;
        }
        events.add(new Event(true, number, b, new int[] {whole}));
        return number;
    }

    private boolean isBroken(int b) {
        boolean broken = false;
        for (Event look : all(true)) {
            broken = look.boat == b ? look.told[0] == 0 : broken;
        }
        return broken;
    }

    int broke(int look, int what) {
        if (outside(look, 0, all(true).size() - 1) || outside(what, 0, 2)) {
            return NONE;
        }
        Event it = all(true).get(look);
        boolean wasWhole = true;
        List<Event> suspects = new ArrayList<>();
        for (Event e : events.subList(0, events.indexOf(it))) {
            if (e.boat == it.boat && e.isLook) {
                wasWhole = e.told[0] == 1;
                suspects.clear();
            } else if (e.boat == it.boat) {
                suspects.add(e);
            }
        }
        if (it.told[0] == 1 || !wasWhole) {
            return STATE;
        }
        if (what == 0) {
            return suspects.size();
        }
        return suspects.isEmpty() ? NONE : what == 1 ? suspects.get(0).number : suspects.get(0).told[3];
    }

    int outing(int i, int what) {
        if (outside(i, 0, all(false).size() - 1) || outside(what, 0, 3)) {
            return NONE;
        }
        return all(false).get(i).told[what];
    }

    // ---- heats and trailers

    int heat(int b, int minute) {
        if (noBoat(b)) {
            return NONE;
        }
        if (outside(minute, 0, 1439)) {
            return BAD;
        }
        if (heats.size() == 20) {
            return FULL;
        }
        heats.add(new Heat(b, minute));
        return heats.size() - 1;
    }

    int near(int minutes) {
        if (outside(minutes, 0, 999)) {
            return BAD;
        }
        int was = near;
        near = minutes;
        return was;
    }

    private boolean clash(Heat one, Heat other) {
        return Math.abs(one.minute - other.minute) < near && sharesSomething(one, other);
    }

    int clashes() {
        int pairs = 0;
        for (int i = 0; i < heats.size(); i++) {
            for (int j = i + 1; j < heats.size(); j++) {
                pairs += clash(heats.get(i), heats.get(j)) ? 1 : 0;
            }
        }
        return pairs;
    }

    int shift(int heat) {
        if (outside(heat, 0, heats.size() - 1)) {
            return NONE;
        }
        List<Heat> others = new ArrayList<>(heats);
        Heat it = others.remove(heat);
        others.removeIf(other -> !sharesSomething(it, other));
        for (int minute = it.minute; minute <= 1439; minute++) {
            int at = minute;
            if (others.stream().noneMatch(other -> Math.abs(at - other.minute) < near)) {
                return minute;
            }
        }
        return STATE;
    }

    private boolean sharesSomething(Heat one, Heat other) {
        Set<Integer> both = whoSitsIn(one.boat);
        both.retainAll(whoSitsIn(other.boat));
        return one.boat == other.boat || !both.isEmpty();
    }

    int trailer(int set, int length) {
        if (set < 0 || set >= 1 << boats.size() || outside(length, 1, 999)) {
            return BAD;
        }
        List<Integer> loaded = new ArrayList<>();
        int ways = 1;
        for (int b = 0; b < boats.size(); b++) {
            if ((set >> b & 1) == 1) {
                loaded.add(b);
                ways *= 3;
            }
        }
        int shortest = Integer.MAX_VALUE;
        int bestWay = NONE;
        for (int way = 0; way < ways; way++) {
            int longest = longestRow(loaded, way, ways);
            if (longest <= length && longest < shortest) {
                shortest = longest;
                bestWay = way;
            }
        }
        if (bestWay == NONE) {
            return STATE;
        }
        racks.clear();
        int part = ways;
        for (int b : loaded) {
            part /= 3;
            racks.put(b, bestWay / part % 3);
        }
        return shortest;
    }

    /** The digits of a way, to the base of 3, are the racks, the first BOAT's first. */
    private int longestRow(List<Integer> loaded, int way, int ways) {
        int[] rows = new int[3];
        int part = ways;
        for (int b : loaded) {
            part /= 3;
            rows[way / part % 3] += boats.get(b).length;
        }
        return Math.max(rows[0], Math.max(rows[1], rows[2]));
    }

    int rack(int b) {
        return racks.getOrDefault(b, NONE);
    }

    int count(int what) {
        if (outside(what, 0, 8)) {
            return NONE;
        }
        return List.of(oars.size(), boats.size(), races.size(), rules.size(), all(false).size(), all(true).size(),
            heats.size(), today, tape.length()).get(what);
    }
}
