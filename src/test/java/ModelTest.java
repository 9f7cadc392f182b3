import java.lang.reflect.InvocationTargetException;
import java.lang.reflect.Method;
import java.util.Arrays;
import java.util.HashMap;
import java.util.List;
import java.util.Map;
import java.util.Random;
import java.util.TreeMap;

/**
 * Random runs of 512 calls, sober and wild ones, on the class and on PlainClub: every answer must be the same.
 * Each run likes some calls better than others, so that all of them come to their bounds somewhere.
 */
final class ModelTest {
    private static final int RUNS = 1200;
    private static final int CALLS = 512;
    private static final int[] WILD = {
        Integer.MIN_VALUE, Integer.MIN_VALUE + 1, -1000, -10, -5, -3, -2, -1, 0, 1, 2, 7, 8, 9, 15, 16, 31, 32, 33, 64,
        120, 151, 255, 256, 1000, 1440, 65536, Integer.MAX_VALUE - 1, Integer.MAX_VALUE,
    };
    private static final String[] FIELDS = {"stream", "wind", "hour", "month", "size", "young", "ice"};
    private static final String[] KINDS = {"pair", "four", "eight", "single", "quad", "*", "*", "*"};
    private static final int[] USUAL = {100, 6, 12, 6, 4, 1, 1};
    private static final Check check = new Check();
    private static final Map<String, Method> real = methodsOf(DawnEights.class);
    private static final Map<String, Method> plain = methodsOf(PlainClub.class);
    private static final List<String> names = real.keySet().stream().sorted().toList();
    /** How often each call answered a number that is no refusal (the key is mostly its name), and each refusal. */
    private static final Map<String, Integer> answers = new TreeMap<>();

    private final Random random;
    private final DawnEights x = new DawnEights();
    private final PlainClub due = new PlainClub();
    private final StringBuilder story = new StringBuilder();
    private final int wildness;
    private final int[] liking = new int[names.size()];
    private int calls = 0;
    private boolean same = true;

    private ModelTest(int seed) {
        random = new Random(seed);
        wildness = seed % 5 == 4 ? 1 + random.nextInt(100) : random.nextInt(3);
        for (int i = 0; i < liking.length; i++) {
            liking[i] = new int[] {0, 1, 1, 2, 2, 5, 15}[random.nextInt(7)];
        }
    }

    public static void main(String[] args) {
        for (int seed = 0; seed < RUNS; seed++) {
            new ModelTest(seed).run();
        }
        everyAnswerCame();
        check.end("ModelTest");
    }

    private static Map<String, Method> methodsOf(Class<?> of) {
        Map<String, Method> all = new HashMap<>();
        for (Method m : of.getDeclaredMethods()) {
            boolean isCall = Arrays.stream(DawnEights.class.getMethods()).anyMatch(f ->
                f.getDeclaringClass() == DawnEights.class && f.getName().equals(m.getName()));
            if (isCall) {
                all.put(m.getName(), m);
            }
        }
        return all;
    }

    // ---- one run

    private void run() {
        found();
        while (calls < CALLS && same) {
            act(names.get(likedOne()));
        }
    }

    private void act(String name) {
        if (name.equals("rule") && random.nextInt(4) > 0) {
            type(someText());
        }
        if (name.equals("sit") && random.nextInt(3) == 0) {
            manAll();
        } else if (name.equals("unrace") && random.nextInt(4) > 0) {
            call("race", race());
        } else {
            call(name, arguments(name));
        }
    }

    /** Some OARS and BOATS to begin with; in some runs none. */
    private void found() {
        int oars = random.nextInt(5) == 0 ? random.nextInt(5) : 5 + random.nextInt(12);
        int boats = random.nextInt(9);
        boolean light = random.nextBoolean();
        for (int o = 0; o < oars; o++) {
            call("oar", random.nextInt(5), light ? 50 + random.nextInt(30) : pick(30, 150));
        }
        for (int b = 0; b < boats; b++) {
            boolean wide = random.nextInt(4) > 0;
            call("boat", random.nextInt(5), wide ? 30 : 55 + random.nextInt(10), wide ? 150 : 65 + random.nextInt(5),
                1 + random.nextInt(random.nextBoolean() ? 99 : 9));
        }
    }

    private int likedOne() {
        int sum = Arrays.stream(liking).sum() + liking.length;
        int at = random.nextInt(sum);
        for (int i = 0; i < liking.length; i++) {
            at -= liking[i] + 1;
            if (at < 0) {
                return i;
            }
        }
        return 0;
    }

    /** Fills a BOAT and its COX's SEAT, so that it may go out. */
    private void manAll() {
        int b = random.nextInt(8);
        int hour = 4 + random.nextInt(8);
        for (int turn = 0; turn < 3; turn++) {
            call("sit", b, 8, random.nextInt(16));
        }
        call("crew", b, hour, 1);
        call("may", b, hour);
        for (int turn = random.nextInt(8); turn >= 0; turn--) {
            call("out", b, hour);
        }
    }

    // ---- arguments

    /** Mostly a number within these bounds, sometimes at one of them or next to it, seldom any number. */
    private int pick(int least, int most) {
        if (random.nextInt(100) < wildness) {
            return random.nextInt(8) == 0 ? random.nextInt() : WILD[random.nextInt(WILD.length)];
        }
        switch (random.nextInt(24)) {
            case 0: return least;
            case 1: return most;
            case 2: return random.nextInt(3) == 0 ? least - 1 : least;
            case 3: return random.nextInt(3) == 0 ? most + 1 : most;
            default: return least + random.nextInt(Math.max(1, most - least + 1));
        }
    }

    private int anOar() {
        return pick(0, due.count(0) - 1);
    }

    private int aBoat() {
        return pick(0, due.count(1) - 1);
    }

    private int aSeat() {
        switch (random.nextInt(4)) {
            case 0: return pick(0, 8);
            case 1: return pick(0, 3);
            case 2: return pick(0, 1);
            default: return random.nextInt(3) > 0 ? 8 : 0;
        }
    }

    private int anHour() {
        return random.nextBoolean() ? pick(5, 8) : pick(0, 23);
    }

    private Object[] arguments(String name) {
        switch (name) {
            case "oar": return of(pick(0, 4), pick(30, 150));
            case "boat": return of(pick(0, 4), pick(30, 90), pick(70, 150), pick(1, 99));
            case "ill": return of(anOar(), random.nextInt(3) > 0 ? 0 : pick(0, 1));
            case "sit": return of(aBoat(), aSeat(), random.nextInt(5) == 0 ? -1 : anOar());
            case "seat": return of(aBoat(), aSeat());
            case "about": return of(anOar(), pick(0, 3));
            case "race": return race();
            case "strength", "misfit": return of(anOar(), pick(0, 1));
            case "between": return of(anOar(), anOar(), pick(0, 1));
            case "sure": return of(random.nextInt(4) > 0 ? pick(0, 2) : anOar(), anOar());
            case "group": return of(anOar());
            case "crew": return of(aBoat(), anHour(), pick(0, 1));
            case "water": return of(random.nextInt(3) == 0 ? due.count(7) % 30 : pick(0, 29), pick(0, 200), pick(0, 12));
            case "feed": return new Object[] {random.nextLong(), pick(1, 8)};
            case "ruled", "may", "out": return of(aBoat(), anHour());
            case "day": return of(random.nextInt(30) == 0 ? pick(0, 999) : pick(due.count(7), Math.min(due.count(7) + 9, 999)));
            case "look": return of(aBoat(), random.nextInt(3) > 0 ? 1 : pick(0, 1));
            case "broke": return of(pick(0, due.count(5) - 1), pick(0, 2));
            case "outing": return of(pick(0, due.count(4) - 1), pick(0, 3));
            case "heat": return of(aBoat(), random.nextBoolean() ? pick(0, 1439) : pick(1300, 1439));
            case "near": return of(random.nextBoolean() ? pick(0, 60) : pick(0, 999));
            case "shift": return of(pick(0, due.count(6) - 1));
            case "trailer": return of(pick(0, (1 << due.count(1)) - 1), random.nextBoolean() ? pick(1, 99) : pick(1, 999));
            case "rack": return of(aBoat());
            case "count": return of(pick(0, 8));
            default: return of();
        }
    }

    /** In most RACES the two are near one another, so that GROUPS of 7 at most come to be. */
    private Object[] race() {
        int x = anOar();
        int y = random.nextInt(5) == 0 ? anOar() : x / 5 * 5 + random.nextInt(5);
        int by = random.nextBoolean() ? pick(-999, 999) : pick(-5, 5);
        return of(x, y, by);
    }

    private static Object[] of(Object... numbers) {
        return numbers;
    }

    private String someText() {
        StringBuilder text = new StringBuilder(random.nextBoolean() ? "let " : "bar ");
        text.append(KINDS[random.nextInt(KINDS.length)]);
        int tests = random.nextInt(8) == 0 ? 4 : random.nextInt(4);
        for (int t = 0; t < tests; t++) {
            int f = random.nextInt(FIELDS.length);
            text.append(t == 0 ? " if " : "&").append(random.nextInt(3) == 0 ? "!" : "").append(FIELDS[f]);
            text.append("=<>".charAt(random.nextInt(3)));
            text.append(random.nextInt(9) == 0 ? random.nextInt(1000) : random.nextInt(2 * USUAL[f] + 1));
        }
        if (random.nextInt(4) == 0) {
            int at = random.nextInt(text.length());
            text.setCharAt(at, " !&=<>019*abefilmrstuwy".charAt(random.nextInt(23)));
        }
        if (random.nextInt(12) == 0) {
            text.setLength(random.nextInt(text.length()));
        }
        return text.toString();
    }

    private void type(String text) {
        for (int from = 0; from < text.length();) {
            int n = Math.min(1 + random.nextInt(8), text.length() - from);
            long w = random.nextLong();
            for (int i = 0; i < n; i++) {
                w = w << 8 | text.charAt(from + i);
            }
            call("feed", w, n);
            from += n;
        }
    }

    // ---- one call of both

    private void call(String name, Object... arguments) {
        if (calls == CALLS || !same) {
            return;
        }
        calls++;
        story.append(name).append(Arrays.toString(arguments)).append(' ');
        long want = ask(plain.get(name), due, arguments);
        long got = ask(real.get(name), x, arguments);
        same = got == want;
        check.due(same ? name : "behind " + story, got, want);
        boolean refused = want < 0 && want > -6 || want == DawnEights.NO;
        boolean toldApart = refused || name.equals("may") || name.equals("sure");
        answers.merge(toldApart ? name + " " + want : want < 0 && name.equals("rule") ? "rule fault" : name, 1, Integer::sum);
    }

    private static long ask(Method call, Object of, Object[] arguments) {
        try {
            return ((Number) call.invoke(of, arguments)).longValue();
        } catch (InvocationTargetException thrown) {
            throw new IllegalStateException(call.getName() + Arrays.toString(arguments) + " threw", thrown.getCause());
        } catch (IllegalAccessException closed) {
            throw new IllegalStateException(closed);
        }
    }

    /** A run that never came to a bound shows nothing about it: each answer of each promise must have come. */
    private static void everyAnswerCame() {
        String[] promised = {
            "oar", "oar -2", "oar -4", "boat", "boat -2", "boat -4", "ill", "ill -1", "ill -2",
            "sit", "sit -1", "sit -5", "sit -3", "seat", "seat -1", "about", "about -1",
            "race", "race -1", "race -2", "race -4", "unrace", "unrace -3", "group", "group -1",
            "strength", "strength " + DawnEights.NO, "between", "between " + DawnEights.NO,
            "misfit", "misfit " + DawnEights.NO, "sure 0", "sure 1", "sure 2", "sure -1", "sure -2",
            "crew", "crew -1", "crew -2", "crew -3", "water", "water -1", "water -2", "feed", "feed -2", "feed -4",
            "rule", "rule fault", "rule -4", "ruled", "ruled -1", "ruled -2", "may 0", "may 1", "may 2",
            "may 3", "may 4", "may 5", "may -1", "may -2",
            "day", "day -2", "out", "out -1", "out -2", "out -3", "out -4", "look", "look -1", "look -2", "look -4",
            "broke", "broke -1", "broke -3", "outing", "outing -1", "heat", "heat -1", "heat -2", "heat -4",
            "near", "near -2", "clashes", "shift", "shift -1", "shift -3", "trailer", "trailer -2", "trailer -3",
            "rack", "rack -1", "count", "count -1",
        };
        for (String one : promised) {
            check.isTrue("an answer of '" + one + "' came", answers.containsKey(one));
        }
    }
}
