import java.util.Random;

/** Calls with any arguments in any state: none throws, and one that is refused changes nothing. */
final class WildCallsTest {
    private static final int CALLS = 512;
    private static final int[] WILD = {
        Integer.MIN_VALUE, Integer.MIN_VALUE + 1, -1000, -5, -2, -1, 0, 1, 2, 7, 8, 9, 15, 16, 23, 24, 30, 40, 60, 70,
        120, 150, 200, 255, 256, 999, 1000, 1439, 1440, 65536, Integer.MAX_VALUE - 1, Integer.MAX_VALUE,
    };
    private static final String[] TEXTS = {
        "let *", "bar single", "bar four if young=1", "let * if !hour<6&month=0", "bar * if ice=1", "bar", "let pair if",
        "bar * if stream>100&wind>5&size=1",
    };
    private static final Check check = new Check();

    public static void main(String[] args) {
        for (int seed = 0; seed < 60; seed++) {
            run(new Random(seed));
        }
        check.end("WildCallsTest");
    }

    private static void run(Random random) {
        DawnEights x = new DawnEights();
        int sober = random.nextInt(100);
        for (int i = 0; i < CALLS; i++) {
            String before = snapshot(x);
            int which = random.nextInt(32);
            long answer = random.nextInt(100) < sober ? soberCall(x, which, random) : wildCall(x, which, random);
            boolean refused = answer < 0 && answer > -5 || answer == -5 && which == 3 || answer == DawnEights.NO;
            boolean tells = which == 3 && answer == -1 || which == 16;
            if (refused && !tells || onlyAsks(which)) {
                check.isTrue("call " + which + " answered " + answer + " and changed something",
                    before.equals(snapshot(x)));
            }
        }
    }

    private static boolean onlyAsks(int which) {
        int asks = 1 << 4 | 1 << 5 | 1 << 8 | 1 << 9 | 1 << 10 | 1 << 11 | 1 << 12 | 1 << 17 | 1 << 18 | 1 << 22 | 1 << 23
            | 1 << 26 | 1 << 27 | 1 << 29 | 1 << 30;
        return (asks >> which & 1) != 0;
    }

    private static int wild(Random random) {
        return random.nextInt(8) == 0 ? random.nextInt() : WILD[random.nextInt(WILD.length)];
    }

    private static long wildCall(DawnEights x, int which, Random random) {
        return call(x, which, wild(random), wild(random), wild(random), wild(random));
    }

    private static long soberCall(DawnEights x, int which, Random random) {
        int boats = Math.max(1, x.count(1));
        int oars = Math.max(1, x.count(0));
        int b = random.nextInt(boats);
        int o = random.nextInt(oars);
        int hour = random.nextInt(24);
        switch (which) {
            case 0: return x.oar(random.nextInt(5), 30 + random.nextInt(121));
            case 1: return x.boat(random.nextInt(5), 30 + random.nextInt(40), 70 + random.nextInt(81), 1 + random.nextInt(99));
            case 2: return x.ill(o, random.nextInt(5) / 4);
            case 3: return x.sit(b, random.nextInt(9), o);
            case 6: return x.race(o, random.nextInt(oars), random.nextInt(1999) - 999);
            case 13: return x.crew(b, hour, random.nextInt(2));
            case 14: return x.water(random.nextInt(30), random.nextInt(201), random.nextInt(13));
            case 15: return Check.type(x, TEXTS[random.nextInt(TEXTS.length)]) & 0x7F;
            case 19: return x.day(x.count(7) + random.nextInt(9));
            case 20: return x.out(b, hour);
            case 21: return x.look(b, random.nextInt(5) > 0 ? 1 : 0);
            case 24: return x.heat(b, random.nextInt(1440));
            case 28: return x.trailer(random.nextInt(1 << boats), 1 + random.nextInt(999));
            default: return call(x, which, random.nextInt(16), random.nextInt(16), random.nextInt(2), 0);
        }
    }

    private static long call(DawnEights x, int which, int a, int b, int c, int d) {
        switch (which) {
            case 0: return x.oar(a, b);
            case 1: return x.boat(a, b, c, d);
            case 2: return x.ill(a, b);
            case 3: return x.sit(a, b, c);
            case 4: return x.seat(a, b);
            case 5: return x.about(a, b);
            case 6: return x.race(a, b, c);
            case 7: return x.unrace();
            case 8: return x.group(a);
            case 9: return x.strength(a, b);
            case 10: return x.between(a, b, c);
            case 11: return x.misfit(a, b);
            case 12: return x.sure(a, b);
            case 13: return x.crew(a, b, c);
            case 14: return x.water(a, b, c);
            case 15: return x.feed((long) a << 32 ^ c, b);
            case 16: return x.rule();
            case 17: return x.ruled(a, b);
            case 18: return x.may(a, b);
            case 19: return x.day(a);
            case 20: return x.out(a, b);
            case 21: return x.look(a, b);
            case 22: return x.broke(a, b);
            case 23: return x.outing(a, b);
            case 24: return x.heat(a, b);
            case 25: return x.near(a);
            case 26: return x.clashes();
            case 27: return x.shift(a);
            case 28: return x.trailer(a, b);
            case 29: return x.rack(a);
            default: return x.count(a);
        }
    }

    /** All that can be asked of an object without a change. */
    private static String snapshot(DawnEights x) {
        StringBuilder all = new StringBuilder();
        for (int what = 0; what < 9; what++) {
            all.append(x.count(what)).append(' ');
        }
        for (int o = 0; o < x.count(0); o++) {
            for (int what = 0; what < 4; what++) {
                all.append(x.about(o, what)).append(' ');
            }
            all.append(x.group(o)).append(' ').append(x.strength(o, 0)).append(' ').append(x.misfit(o, 0)).append(' ');
        }
        for (int b = 0; b < x.count(1); b++) {
            for (int s = 0; s < 9; s++) {
                all.append(x.seat(b, s)).append(' ');
            }
            all.append(x.rack(b)).append(' ').append(x.may(b, 6)).append(' ').append(x.ruled(b, 20)).append(' ');
        }
        for (int i = 0; i < x.count(4); i++) {
            all.append(x.outing(i, 0) + x.outing(i, 1) + x.outing(i, 2)).append(' ').append(x.outing(i, 3)).append(' ');
        }
        for (int l = 0; l < x.count(5); l++) {
            all.append(x.broke(l, 0)).append(' ').append(x.broke(l, 1)).append(' ').append(x.broke(l, 2)).append(' ');
        }
        for (int h = 0; h < x.count(6); h++) {
            all.append(x.shift(h)).append(' ');
        }
        int near = x.near(0);
        x.near(near);
        return all.append(x.clashes()).append(' ').append(near).toString();
    }
}
