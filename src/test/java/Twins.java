import java.util.ArrayList;
import java.util.List;

/**
 * Two objects with the same past: one gets calls that are refused, the other does not. Whatever is asked or
 * done later, both must answer the same: so a refused call changed nothing, not even what cannot be asked.
 * Past, calls and one probe together stay below the document's 512 calls.
 */
final class Twins {
    static final int MOST_CALLS = 10;
    private static final int PROBES = 10;

    interface Call {
        long of(DawnEights x);
    }

    private Twins() {
    }

    /** The number of the first probe that tells the two apart; -1 if none does. */
    static int toldApartBy(Clubs.Past past, List<Call> refused) {
        for (int probe = 0; probe < PROBES; probe++) {
            DawnEights called = new DawnEights();
            past.live(called);
            for (Call call : refused) {
                call.of(called);
            }
            DawnEights spared = new DawnEights();
            past.live(spared);
            if (!answers(called, probe).equals(answers(spared, probe))) {
                return probe;
            }
        }
        return -1;
    }

    private static List<Long> answers(DawnEights x, int probe) {
        List<Long> all = new ArrayList<>();
        switch (probe) {
            case 0: people(x, all); break;
            case 1: strengths(x, all); break;
            case 2: sureOnes(x, all); break;
            case 3: racesTakenBack(x, all); break;
            case 4: outings(x, all); break;
            case 5: looksAndHeats(x, all); break;
            case 6: tapeRead(x, all); break;
            case 7: watersOfAllDays(x, all); break;
            case 8: crewsAndTrailers(x, all); break;
            default: oneMoreOfEach(x, all); break;
        }
        return all;
    }

    private static void people(DawnEights x, List<Long> all) {
        for (int what = 0; what < 9; what++) {
            all.add((long) x.count(what));
        }
        for (int o = 0; o < x.count(0); o++) {
            for (int what = 0; what < 4; what++) {
                all.add((long) x.about(o, what));
            }
        }
        for (int b = 0; b < 8; b++) {
            all.add((long) x.rack(b));
            for (int s = 0; s < 9; s++) {
                all.add((long) x.seat(b, s));
            }
        }
    }

    private static void strengths(DawnEights x, List<Long> all) {
        for (int o = 0; o < 16; o++) {
            all.add((long) x.group(o));
            for (int what = 0; what < 2; what++) {
                all.add(x.strength(o, what));
                all.add(x.misfit(o, what));
                all.add(x.between(o, o + 1, what));
            }
        }
    }

    private static void sureOnes(DawnEights x, List<Long> all) {
        for (int o = 0; o < 16; o++) {
            for (int other = 0; other < o; other++) {
                all.add((long) x.sure(o, other));
            }
        }
    }

    private static void racesTakenBack(DawnEights x, List<Long> all) {
        for (int r = 0; r < 41; r++) {
            all.add((long) x.unrace());
            all.add(x.misfit(0, 0));
            all.add(x.strength(5, 0));
        }
    }

    private static void outings(DawnEights x, List<Long> all) {
        for (int i = 0; i < x.count(4); i++) {
            for (int what = 0; what < 4; what++) {
                all.add((long) x.outing(i, what));
            }
        }
        for (int b = 0; b < 8; b++) {
            for (int hour = 4; hour < 24; hour += 3) {
                all.add((long) x.may(b, hour));
                all.add((long) x.ruled(b, hour));
            }
        }
    }

    private static void looksAndHeats(DawnEights x, List<Long> all) {
        for (int l = 0; l < x.count(5); l++) {
            for (int what = 0; what < 3; what++) {
                all.add((long) x.broke(l, what));
            }
        }
        all.add((long) x.clashes());
        for (int h = 0; h < 20; h++) {
            all.add((long) x.shift(h));
        }
        all.add((long) x.near(999));
        all.add((long) x.clashes());
    }

    /** What stands on THE TAPE, told by what it is with two endings behind it. */
    private static void tapeRead(DawnEights x, List<Long> all) {
        all.add((long) Check.type(x, "f ice=0"));
        all.add((long) x.rule());
        for (int what = 0; what < 9; what++) {
            all.add((long) x.count(what));
        }
        for (int b = 0; b < 8; b++) {
            all.add((long) x.ruled(b, 12));
        }
        all.add((long) Check.readRule(x, "bar * if ice=0"));
        all.add((long) x.ruled(0, 12));
    }

    private static void watersOfAllDays(DawnEights x, List<Long> all) {
        x.rule();
        Check.readRule(x, "let * if stream=0&wind=0");
        Check.readRule(x, "let * if stream=60&wind=5");
        Check.readRule(x, "let * if stream=7&wind=3");
        Check.readRule(x, "let * if stream=200&wind=12");
        for (int d = 0; d < 30; d++) {
            all.add((long) x.day(x.count(7) + 1));
            all.add((long) x.ruled(0, 12));
        }
    }

    private static void crewsAndTrailers(DawnEights x, List<Long> all) {
        for (int b = 0; b < 8; b++) {
            all.add((long) x.crew(b, 6, 0));
            all.add((long) x.crew(b, 12, 1));
            all.add((long) x.trailer(1 << b, 99));
        }
        for (int b = 0; b < 8; b++) {
            for (int s = 0; s < 9; s++) {
                all.add((long) x.seat(b, s));
            }
        }
        all.add((long) x.trailer((1 << x.count(1)) - 1, 999));
        for (int b = 0; b < 8; b++) {
            all.add((long) x.rack(b));
        }
    }

    private static void oneMoreOfEach(DawnEights x, List<Long> all) {
        all.add((long) x.oar(Clubs.BOTH, 60));
        all.add((long) x.boat(Clubs.SINGLE, 30, 150, 5));
        all.add((long) x.race(0, 1, 5));
        for (int b = 0; b < 8; b++) {
            all.add((long) x.sit(b, 0, b));
            all.add((long) x.out(b, 12));
            all.add((long) x.look(b, 0));
            all.add((long) x.broke(x.count(5) - 1, 0));
            all.add((long) x.broke(x.count(5) - 1, 2));
            all.add((long) x.heat(b, 100));
        }
        all.add((long) x.clashes());
        all.add((long) x.day(990));
        all.add((long) x.feed(0x6C6574L, 3));
        for (int what = 0; what < 9; what++) {
            all.add((long) x.count(what));
        }
    }
}
