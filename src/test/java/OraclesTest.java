import java.math.BigInteger;
import java.util.ArrayList;
import java.util.Arrays;
import java.util.HashMap;
import java.util.List;
import java.util.Map;
import java.util.Random;
import java.util.regex.Matcher;
import java.util.regex.Pattern;

/** Random clubs against slow, plain ways of solving the same. */
final class OraclesTest {
    private static final Check check = new Check();
    private static final int NONE = -1, STATE = -3;

    public static void main(String[] args) {
        for (int seed = 0; seed < 400; seed++) {
            races(new Random(seed));
        }
        for (int seed = 0; seed < 800; seed++) {
            crews(new Random(seed));
        }
        for (int seed = 0; seed < 3000; seed++) {
            rules(new Random(seed));
        }
        for (int seed = 0; seed < 200; seed++) {
            trailers(new Random(seed));
        }
        for (int seed = 0; seed < 300; seed++) {
            heats(new Random(seed));
        }
        for (int seed = 0; seed < 200; seed++) {
            looks(new Random(seed));
        }
        check.end("OraclesTest");
    }

    // ---- seat races: the normal equations in fractions of any size

    private record Fraction(BigInteger above, BigInteger below) {
        static Fraction of(BigInteger a, BigInteger b) {
            BigInteger d = a.gcd(b).multiply(BigInteger.valueOf(b.signum()));
            return new Fraction(a.divide(d), b.divide(d));
        }

        static Fraction of(long n) {
            return new Fraction(BigInteger.valueOf(n), BigInteger.ONE);
        }

        Fraction plus(Fraction f) {
            return of(above.multiply(f.below).add(f.above.multiply(below)), below.multiply(f.below));
        }

        Fraction minus(Fraction f) {
            return plus(new Fraction(f.above.negate(), f.below));
        }

        Fraction times(Fraction f) {
            return of(above.multiply(f.above), below.multiply(f.below));
        }

        Fraction over(Fraction f) {
            return of(above.multiply(f.below), below.multiply(f.above));
        }

        Fraction abs() {
            return new Fraction(above.abs(), below);
        }
    }

    private record Race(int x, int y, int by) { }

    private static List<Integer> groupOf(int o, List<Race> races) {
        List<Integer> all = new ArrayList<>(List.of(o));
        for (int i = 0; i < all.size(); i++) {
            for (Race r : races) {
                if (r.x == all.get(i) && !all.contains(r.y)) {
                    all.add(r.y);
                }
                if (r.y == all.get(i) && !all.contains(r.x)) {
                    all.add(r.x);
                }
            }
        }
        all.sort(null);
        return all;
    }

    /** Solves by Gauss's way, with rows swapped where a pivot is 0. */
    private static Map<Integer, Fraction> strengths(List<Integer> group, List<Race> races) {
        int n = group.size() - 1;
        Fraction[][] m = new Fraction[n][n + 1];
        for (Fraction[] row : m) {
            Arrays.fill(row, Fraction.of(0));
        }
        for (Race r : races) {
            int i = group.indexOf(r.x) - 1;
            int j = group.indexOf(r.y) - 1;
            if (group.contains(r.x)) {
                add(m, i, i, 1); add(m, i, j, -1); add(m, i, n, r.by);
                add(m, j, j, 1); add(m, j, i, -1); add(m, j, n, -r.by);
            }
        }
        for (int k = 0; k < n; k++) {
            int p = k;
            while (m[p][k].above.signum() == 0) {
                p++;
            }
            Fraction[] swapped = m[p];
            m[p] = m[k];
            m[k] = swapped;
            for (int i = 0; i < n; i++) {
                if (i != k) {
                    Fraction factor = m[i][k].over(m[k][k]);
                    for (int j = 0; j <= n; j++) {
                        m[i][j] = m[i][j].minus(factor.times(m[k][j]));
                    }
                }
            }
        }
        Map<Integer, Fraction> found = new HashMap<>();
        found.put(group.get(0), Fraction.of(0));
        for (int i = 0; i < n; i++) {
            found.put(group.get(i + 1), m[i][n].over(m[i][i]));
        }
        return found;
    }

    private static void add(Fraction[][] m, int i, int j, int n) {
        if (i >= 0 && j >= 0) {
            m[i][j] = m[i][j].plus(Fraction.of(n));
        }
    }

    private static void races(Random random) {
        DawnEights x = new DawnEights();
        int oars = 2 + random.nextInt(15);
        int reach = 2 + random.nextInt(Math.min(oars - 1, 8));
        int most = random.nextBoolean() ? 999 : 20;
        for (int o = 0; o < oars; o++) {
            x.oar(0, 60);
        }
        List<Race> races = new ArrayList<>();
        int many = random.nextInt(3) == 0 ? 40 : random.nextInt(12);
        for (int turn = 0; turn < 400 && races.size() < many; turn++) {
            int a = random.nextInt(oars);
            int b = Math.min(oars - 1, a / reach * reach + random.nextInt(reach));
            int by = random.nextInt(6) == 0 ? 0 : random.nextInt(4) == 0 ? most : random.nextInt(2 * most + 1) - most;
            if (a != b) {
                races.add(new Race(a, b, by));
                check.due("race", x.race(a, b, by), races.size());
            }
        }
        for (int back = random.nextInt(4) - 1; back > 0 && !races.isEmpty(); back--) {
            races.remove(races.size() - 1);
            check.due("unrace", x.unrace(), races.size());
        }
        tell(x, 0, oars, races);
        for (int o = 1; o < oars; o++) {
            tell(raced(oars, races), o, oars, races);
        }
    }

    /** An object of its own for each OAR: all of them together would ask more than 512 calls of one. */
    private static DawnEights raced(int oars, List<Race> races) {
        DawnEights x = new DawnEights();
        for (int o = 0; o < oars; o++) {
            x.oar(0, 60);
        }
        for (Race r : races) {
            x.race(r.x, r.y, r.by);
        }
        return x;
    }

    private static void tell(DawnEights x, int o, int oars, List<Race> races) {
        List<Integer> group = groupOf(o, races);
        check.due("group " + o, x.group(o), group.get(0));
        boolean solved = group.size() <= 7;
        Map<Integer, Fraction> strengths = solved ? strengths(group, races) : new HashMap<>();
        Fraction misfit = Fraction.of(0);
        for (Race r : races) {
            if (solved && group.contains(r.x)) {
                misfit = misfit.plus(strengths.get(r.x).minus(strengths.get(r.y)).minus(Fraction.of(r.by)).abs());
            }
        }
        for (int what = 0; what < 2; what++) {
            check.due("strength " + o, x.strength(o, what), part(strengths.get(o), what));
            check.due("misfit " + o, x.misfit(o, what), part(solved ? misfit : null, what));
            for (int p = 0; p < oars; p++) {
                Fraction apart = strengths.containsKey(p) ? strengths.get(o).minus(strengths.get(p)) : null;
                check.due("between " + o + " " + p, x.between(o, p, what), part(apart, what));
            }
        }
        for (int p = 0; p < oars; p++) {
            check.due("sure " + o + " " + p, x.sure(o, p), p == o ? -2 : sure(o, p, races));
        }
    }

    private static long part(Fraction f, int what) {
        return f == null ? DawnEights.NO : (what == 0 ? f.above : f.below).longValueExact();
    }

    private static int sure(int o, int p, List<Race> races) {
        int ups = 0;
        int downs = 0;
        for (Race r : races) {
            int by = r.x == o && r.y == p ? r.by : r.x == p && r.y == o ? -r.by : 0;
            ups += by > 0 ? 1 : 0;
            downs += by < 0 ? 1 : 0;
        }
        return ups > 0 && downs == 0 ? 1 : downs > 0 && ups == 0 ? 2 : 0;
    }

    // ---- crews: all ways, in the order in which the document prefers them

    private static final int[] SEATS = {2, 4, 8, 1, 4};

    private static final class Filling {
        int[][] cost;
        int[] now;
        int[] found;
        int best = Integer.MAX_VALUE;

        void place(int o, int open, int sum) {
            int left = Integer.bitCount(open);
            if (sum >= best || left > cost.length - o) {
                return;
            }
            if (o == cost.length) {
                best = sum;
                found = now.clone();
                return;
            }
            for (int s = 0; s < 8; s++) {
                if ((open >> s & 1) != 0 && cost[o] != null) {
                    now[o] = s;
                    place(o + 1, open & ~(1 << s), sum + cost[o][s]);
                }
            }
            now[o] = NONE;
            place(o + 1, open, sum);
        }
    }

    private static int dislike(int kind, int boatKind, int s) {
        if (boatKind >= 3) {
            return kind <= 1 ? 3 : kind == 3 ? 0 : 1;
        }
        if (kind == 3) {
            return 2;
        }
        return kind <= 1 && kind != s % 2 ? 2 : 0;
    }

    private static void crews(Random random) {
        DawnEights x = new DawnEights();
        boolean eights = random.nextInt(4) == 0;
        int oars = eights ? 8 + random.nextInt(2) : random.nextInt(11);
        for (int o = 0; o < oars; o++) {
            x.oar(random.nextInt(5), 40 + random.nextInt(60));
        }
        int[] kind = new int[3];
        for (int b = 0; b < 3; b++) {
            kind[b] = eights && b == 0 ? 2 : new int[] {0, 1, 3, 4}[random.nextInt(4)];
            x.boat(kind[b], 30, 150, 9);
        }
        for (int turn = 0; turn < 6; turn++) {
            int b = eights ? random.nextInt(8) / 7 : random.nextInt(3);
            for (int i = random.nextInt(4); i > 0 && oars > 0; i--) {
                x.sit(b, random.nextInt(9), random.nextInt(oars + 1) - 1);
                x.ill(random.nextInt(oars), random.nextInt(4) == 0 ? 1 : 0);
            }
            oneCrew(x, b, kind[b], random.nextInt(24), random.nextInt(2), oars);
        }
    }

    private static void oneCrew(DawnEights x, int b, int boatKind, int hour, int does, int oars) {
        Filling filling = new Filling();
        filling.cost = new int[oars][];
        filling.now = new int[oars];
        int[] placed = new int[oars];
        for (int o = 0; o < oars; o++) {
            int place = x.about(o, 3);
            placed[o] = place;
            boolean out = x.about(o, 2) == 0 && (x.about(o, 0) != 4 || hour >= 7);
            boolean free = place == NONE || place / 10 == b && place % 10 != 8;
            if (out && free) {
                filling.cost[o] = new int[8];
                for (int s = 0; s < SEATS[boatKind]; s++) {
                    int move = place == NONE ? 5 : place % 10 == s ? 0 : 4;
                    filling.cost[o][s] = move + dislike(x.about(o, 0), boatKind, s);
                }
            }
        }
        filling.place(0, (1 << SEATS[boatKind]) - 1, 0);
        boolean can = filling.found != null;
        check.due("crew of kind " + boatKind, x.crew(b, hour, does), can ? filling.best : STATE);
        for (int o = 0; o < oars; o++) {
            boolean wasIn = placed[o] != NONE && placed[o] / 10 == b && placed[o] % 10 != 8;
            int want = placed[o];
            if (can && does == 1 && (wasIn || filling.found[o] != NONE)) {
                want = filling.found[o] == NONE ? NONE : 10 * b + filling.found[o];
            }
            check.due("place of " + o, x.about(o, 3), want);
        }
    }

    // ---- rules: the grammar as a regular expression, and what each one tells

    private static final Pattern ONE_TEST = Pattern.compile(Grammar.TEST);
    private static final List<String> KIND_NAMES = List.of("pair", "four", "eight", "single", "quad");

    private static String someRule(Random random) {
        StringBuilder text = new StringBuilder(random.nextBoolean() ? "let " : "bar ");
        text.append(random.nextInt(3) == 0 ? "*" : KIND_NAMES.get(random.nextInt(5)));
        int tests = random.nextInt(5);
        String[] fields = {"stream", "wind", "hour", "month", "size", "young", "ice"};
        int[] top = {25, 6, 24, 12, 9, 2, 2};
        for (int t = 0; t < tests; t++) {
            int f = random.nextInt(7);
            text.append(t == 0 ? " if " : "&").append(random.nextInt(3) == 0 ? "!" : "");
            text.append(fields[f]).append("=<>".charAt(random.nextInt(3))).append(random.nextInt(top[f]));
        }
        return text.toString();
    }

    private static String spoil(String text, Random random) {
        StringBuilder spoilt = new StringBuilder(text);
        int at = random.nextInt(text.length());
        String signs = " !&=<>0189*abefilrstuwy";
        char sign = random.nextInt(5) == 0 ? (char) random.nextInt(256) : signs.charAt(random.nextInt(signs.length()));
        switch (random.nextInt(6)) {
            case 0: spoilt.deleteCharAt(at); break;
            case 1: spoilt.insert(at, sign); break;
            case 2: spoilt.setCharAt(at, sign); break;
            case 3: spoilt.setLength(at); break;
            case 4: spoilt.append(sign); break;
            default: break;
        }
        return spoilt.toString();
    }

    private static void rules(Random random) {
        DawnEights x = new DawnEights();
        x.oar(4, 60);
        x.oar(2, 60);
        for (int kind = 0; kind < 5; kind++) {
            x.boat(kind, 30, 150, 1);
        }
        int day = random.nextInt(1000);
        int stream = random.nextInt(25);
        int wind = random.nextInt(6);
        x.water(day % 30, stream, wind);
        x.day(day);
        int[] place = {random.nextInt(5), random.nextInt(5)};
        x.sit(place[0], random.nextBoolean() ? 8 : 0, 0);
        x.sit(place[1], random.nextBoolean() ? 8 : 0, 1);
        List<String> kept = new ArrayList<>();
        for (int i = 0; i < 20; i++) {
            String text = someRule(random);
            text = random.nextBoolean() ? spoil(text, random) : text;
            if (kept.size() == 10) {
                Check.type(x, text);
                int bytes = x.count(8);
                check.due("'" + text + "' behind ten", x.rule(), -4);
                check.due("the tape stays", x.count(8), bytes);
                continue;
            }
            boolean good = Grammar.isRule(text);
            check.due("'" + text + "'", Check.readRule(x, text), good ? kept.size() : -10 - Grammar.faultOf(text));
            if (good) {
                kept.add(text);
            }
        }
        for (int b = 0; b < 5; b++) {
            int hour = random.nextInt(24);
            int month = day / 30 % 12;
            int young = x.about(0, 3) >= 0 && x.about(0, 3) / 10 == b ? 1 : 0;
            int ice = month < 2 && stream < 10 ? 1 : 0;
            Map<String, Integer> now = Map.of("stream", stream, "wind", wind, "hour", hour, "month", month,
                "size", SEATS[b], "young", young, "ice", ice);
            check.due("ruled " + kept, x.ruled(b, hour), asked(kept, b, now));
        }
    }

    private static int asked(List<String> rules, int b, Map<String, Integer> now) {
        int last = NONE;
        for (int r = 0; r < rules.size(); r++) {
            String kind = rules.get(r).split(" ")[1];
            boolean so = kind.equals("*") || kind.equals(KIND_NAMES.get(b));
            Matcher tests = ONE_TEST.matcher(rules.get(r));
            while (tests.find()) {
                int value = now.get(tests.group(2));
                int number = Integer.parseInt(tests.group(4));
                boolean is = tests.group(3).equals("=") ? value == number
                    : tests.group(3).equals("<") ? value < number : value > number;
                so &= is != tests.group(1).equals("!");
            }
            last = so ? r : last;
        }
        return last;
    }

    // ---- trailers: all ways to load, in the document's order

    private static void trailers(Random random) {
        DawnEights x = new DawnEights();
        int boats = random.nextInt(9);
        int[] lengths = new int[boats];
        int top = random.nextBoolean() ? 99 : 6;
        for (int b = 0; b < boats; b++) {
            lengths[b] = 1 + random.nextInt(top);
            x.boat(b % 5, 30, 150, lengths[b]);
        }
        int[] racks = new int[boats];
        Arrays.fill(racks, NONE);
        for (int turn = 0; turn < 6; turn++) {
            int set = random.nextInt(1 << boats);
            int limit = 1 + random.nextInt(random.nextBoolean() ? 999 : 2 * top);
            int[] best = bestLoad(lengths, set, limit);
            check.due("trailer", x.trailer(set, limit), best == null ? STATE : longest(lengths, best));
            racks = best == null ? racks : best;
            for (int b = 0; b < boats; b++) {
                check.due("rack " + b, x.rack(b), racks[b]);
            }
        }
    }

    private static int[] bestLoad(int[] lengths, int set, int limit) {
        int[] best = null;
        int ways = (int) Math.pow(3, lengths.length);
        for (int way = 0; way < ways; way++) {
            int[] racks = new int[lengths.length];
            int rest = way;
            boolean twice = false;
            for (int b = lengths.length - 1; b >= 0; b--) {
                boolean in = (set >> b & 1) != 0;
                racks[b] = in ? rest % 3 : NONE;
                twice |= !in && rest % 3 != 0;
                rest /= 3;
            }
            int longest = longest(lengths, racks);
            if (!twice && longest <= limit && (best == null || longest < longest(lengths, best))) {
                best = racks;
            }
        }
        return best;
    }

    private static int longest(int[] lengths, int[] racks) {
        int[] row = new int[3];
        for (int b = 0; b < lengths.length; b++) {
            if (racks[b] != NONE) {
                row[racks[b]] += lengths[b];
            }
        }
        return Math.max(row[0], Math.max(row[1], row[2]));
    }

    // ---- heats: minute for minute

    private static void heats(Random random) {
        DawnEights x = new DawnEights();
        x.boat(3, 30, 150, 1);
        x.boat(3, 30, 150, 1);
        int many = random.nextInt(21);
        int span = random.nextBoolean() ? 1440 : 200;
        int near = random.nextInt(random.nextBoolean() ? 1000 : 40);
        int[] boat = new int[many];
        int[] minute = new int[many];
        x.near(near);
        for (int h = 0; h < many; h++) {
            boat[h] = random.nextInt(2);
            minute[h] = 1440 - span + random.nextInt(span);
            x.heat(boat[h], minute[h]);
        }
        int pairs = 0;
        for (int h = 0; h < many; h++) {
            pairs += clashesOf(h, minute[h], boat, minute, near);
            int free = minute[h];
            while (free < 1440 && clashesOf(h, free, boat, minute, near) > 0) {
                free++;
            }
            check.due("shift", x.shift(h), free < 1440 ? free : STATE);
        }
        check.due("clashes", x.clashes(), pairs / 2);
    }

    private static int clashesOf(int h, int at, int[] boat, int[] minute, int near) {
        int found = 0;
        for (int g = 0; g < boat.length; g++) {
            found += g != h && boat[g] == boat[h] && Math.abs(at - minute[g]) < near ? 1 : 0;
        }
        return found;
    }

    // ---- looks: each boat's story by itself

    private static void looks(Random random) {
        DawnEights x = new DawnEights();
        for (int o = 0; o < 6; o++) {
            x.oar(2, 60);
        }
        List<List<Integer>> since = new ArrayList<>();
        boolean[] broken = new boolean[3];
        for (int b = 0; b < 3; b++) {
            x.boat(3, 30, 150, 1);
            since.add(new ArrayList<>());
        }
        List<Integer> crews = new ArrayList<>();
        List<int[]> told = new ArrayList<>();
        for (int turn = 0; turn < 60; turn++) {
            int b = random.nextInt(3);
            if (random.nextInt(3) > 0) {
                int o = b + 3 * random.nextInt(2);
                x.sit(b, 0, o);
                boolean full = crews.size() == 30;
                check.due("out", x.out(b, 9), broken[b] ? STATE : full ? -4 : crews.size());
                if (!broken[b] && !full) {
                    since.get(b).add(crews.size());
                    crews.add(1 << o);
                }
            } else {
                int whole = random.nextInt(2);
                check.due("look", x.look(b, whole), told.size());
                boolean breaks = whole == 0 && !broken[b];
                List<Integer> outs = since.get(b);
                int first = outs.isEmpty() ? NONE : outs.get(0);
                told.add(breaks ? new int[] {outs.size(), first, first == NONE ? NONE : crews.get(first)}
                    : new int[] {STATE, STATE, STATE});
                broken[b] = whole == 0;
                since.get(b).clear();
            }
        }
        for (int l = 0; l < told.size(); l++) {
            for (int what = 0; what < 3; what++) {
                check.due("broke " + l + " " + what, x.broke(l, what), told.get(l)[what]);
            }
        }
    }
}
