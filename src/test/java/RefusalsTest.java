import java.util.ArrayList;
import java.util.List;

/**
 * "REFUSALS, of several the first one told: NONE ..; BAD ..; STATE as told; FULL. They change nothing.": each
 * call with every mixture of good and wrong arguments, in clubs where it would else be taken, STATE or FULL.
 */
final class RefusalsTest {
    private static final int TAKEN = 0;
    private static final Check check = new Check();

    /** Good values of an argument, and wrong ones with what each of these is refused by. */
    private record Arg(int[] good, int refusal, int[] wrong) {
    }

    private interface Asked {
        long of(DawnEights x, int[] args);
    }

    public static void main(String[] args) {
        new Sentences().says("REFUSALS, of several the first one told: NONE there is no such OAR, BOAT, SEAT, RULE, "
            + "OUTING, LOOK, HEAT, what; BAD a number is not as told; STATE as told; FULL. They change nothing.").end("section 5");
        oarsAndBoats();
        sitting();
        seatRaces();
        crews();
        river();
        outings();
        looks();
        heats();
        trailers();
        check.end("RefusalsTest");
    }

    private static Arg none(int most) {
        return new Arg(new int[] {0, most}, Clubs.NONE, new int[] {-1, most + 1, Clubs.LEAST, Clubs.MOST});
    }

    private static Arg none(int[] good, int most) {
        return new Arg(good, Clubs.NONE, new int[] {-1, most + 1, Clubs.LEAST, Clubs.MOST});
    }

    private static Arg bad(int least, int most) {
        return new Arg(new int[] {least, most}, Clubs.BAD, new int[] {least - 1, most + 1, Clubs.LEAST, Clubs.MOST});
    }

    /** Of several REFUSALS the first one in the document's order. */
    private static int first(int one, int other) {
        int[] order = {Clubs.NONE, Clubs.BAD, Clubs.STATE, Clubs.FULL};
        for (int refusal : order) {
            if (one == refusal || other == refusal) {
                return refusal;
            }
        }
        return TAKEN;
    }

    /** All mixtures of arguments; else: what the call is refused by when all of them are good, or TAKEN. */
    private static void mix(String call, Clubs.Past past, int otherwise, Asked asked, Arg... args) {
        List<Twins.Call> refused = new ArrayList<>();
        mixFrom(0, new int[args.length], otherwise, args, (chosen, want) -> {
            if (want != TAKEN) {
                int[] kept = chosen.clone();
                DawnEights x = new DawnEights();
                past.live(x);
                check.due(call + java.util.Arrays.toString(kept), asked.of(x, kept), want);
                refused.add(y -> asked.of(y, kept));
            }
        });
        for (int from = 0; from < refused.size(); from += Twins.MOST_CALLS) {
            List<Twins.Call> some = refused.subList(from, Math.min(refused.size(), from + Twins.MOST_CALLS));
            check.due(call + ", refused, changed something: told by probe", Twins.toldApartBy(past, some), -1);
        }
    }

    private interface Mixed {
        void take(int[] chosen, int want);
    }

    private static void mixFrom(int at, int[] chosen, int want, Arg[] args, Mixed mixed) {
        if (at == args.length) {
            mixed.take(chosen, want);
            return;
        }
        for (int value : args[at].good) {
            chosen[at] = value;
            mixFrom(at + 1, chosen, want, args, mixed);
        }
        for (int value : args[at].wrong) {
            chosen[at] = value;
            mixFrom(at + 1, chosen, first(want, args[at].refusal), args, mixed);
        }
    }

    private static void oarsAndBoats() {
        Asked oar = (x, a) -> x.oar(a[0], a[1]);
        mix("oar", Clubs::busy, TAKEN, oar, bad(0, 4), bad(30, 150));
        mix("oar", Clubs::brimful, Clubs.FULL, oar, bad(0, 4), bad(30, 150));
        // 90 at most and from 90 on, so that no mixture has a least one above the greatest
        Arg least = new Arg(new int[] {30, 90}, Clubs.BAD, new int[] {29, 151});
        Arg most = new Arg(new int[] {90, 150}, Clubs.BAD, new int[] {29, 151});
        Asked boat = (x, a) -> x.boat(a[0], a[1], a[2], a[3]);
        mix("boat", Clubs::busy, TAKEN, boat, bad(0, 4), least, most, bad(1, 99));
        mix("boat", Clubs::brimful, Clubs.FULL, boat, bad(0, 4), least, most, bad(1, 99));
        mix("ill", Clubs::busy, TAKEN, (x, a) -> x.ill(a[0], a[1]), none(9), bad(0, 1));
        mix("ill", Clubs::fresh, Clubs.NONE, (x, a) -> x.ill(a[0], a[1]), none(9), bad(0, 1));
    }

    /** sit has -5 where other calls have NONE: it is told ahead of STATE. */
    private static void sitting() {
        Arg four = new Arg(new int[] {1}, Clubs.NONE, new int[] {-1, 5, Clubs.LEAST, Clubs.MOST});
        Arg seat = new Arg(new int[] {0, 3, Clubs.COX}, Clubs.NONE, new int[] {-1, 4, 7, 9, Clubs.LEAST, Clubs.MOST});
        Arg somebody = new Arg(new int[] {-1, 7}, Clubs.NONE, new int[] {-2, 10, 16, Clubs.LEAST, Clubs.MOST});
        Arg illOne = new Arg(new int[] {6}, Clubs.NONE, new int[] {-2, 10});
        Asked sit = (x, a) -> {
            int answer = x.sit(a[0], a[1], a[2]);
            return answer == Clubs.NO_SUCH ? Clubs.NONE : answer;
        };
        mix("sit", Clubs::busy, TAKEN, sit, four, seat, somebody);
        mix("sit of an ill one", Clubs::busy, Clubs.STATE, sit, four, seat, illOne);
        Arg cox = new Arg(new int[] {Clubs.COX}, Clubs.NONE, new int[] {-1, 4, 7, 9});
        Arg heavy = new Arg(new int[] {0, 1, 2, 5}, Clubs.NONE, new int[] {-2, 10});
        mix("sit of a heavy one", Clubs::busy, Clubs.STATE, sit, four, cox, heavy);
    }

    private static void seatRaces() {
        Arg one = none(new int[] {0, 4}, 9);
        Arg other = none(new int[] {5, 9}, 9);
        Arg oneOfAll = none(new int[] {0, 4}, 15);
        Arg otherOfAll = none(new int[] {5, 15}, 15);
        Asked race = (x, a) -> x.race(a[0], a[1], a[2]);
        mix("race", Clubs::busy, TAKEN, race, one, other, bad(-999, 999));
        mix("race", Clubs::brimful, Clubs.FULL, race, oneOfAll, otherOfAll, bad(-999, 999));
        Asked ownRace = (x, a) -> x.race(a[0], a[0], a[1]);
        mix("race of one", Clubs::busy, Clubs.BAD, ownRace, none(9), bad(-999, 999));
        mix("race of one", Clubs::brimful, Clubs.BAD, ownRace, none(15), bad(-999, 999));
        mix("sure", Clubs::busy, TAKEN, (x, a) -> x.sure(a[0], a[1]), one, other);
        mix("sure of one", Clubs::busy, Clubs.BAD, (x, a) -> x.sure(a[0], a[0]), none(9));
        mix("unrace", Clubs::fresh, Clubs.STATE, (x, a) -> x.unrace());
        mix("group", Clubs::busy, TAKEN, (x, a) -> x.group(a[0]), none(9));
        Arg what = new Arg(new int[] {0, 1}, Clubs.NONE, new int[] {-1, 2, Clubs.LEAST, Clubs.MOST});
        mix("strength", Clubs::busy, TAKEN, (x, a) -> noIsNone(x.strength(a[0], a[1])), none(9), what);
        mix("misfit", Clubs::busy, TAKEN, (x, a) -> noIsNone(x.misfit(a[0], a[1])), none(9), what);
        mix("between", Clubs::busy, TAKEN, (x, a) -> noIsNone(x.between(a[0], a[1], a[2])),
            none(new int[] {0}, 9), none(new int[] {2}, 9), what);
        mix("between of two groups", Clubs::busy, Clubs.NONE, (x, a) -> noIsNone(x.between(a[0], a[1], a[2])),
            one, other, what);
    }

    private static long noIsNone(long answer) {
        return answer == DawnEights.NO ? Clubs.NONE : answer;
    }

    private static void crews() {
        Asked crew = (x, a) -> x.crew(a[0], a[1], a[2]);
        mix("crew", Clubs::busy, TAKEN, crew, none(new int[] {0}, 4), bad(0, 23), bad(0, 1));
        mix("crew of too few", Clubs::busy, Clubs.STATE, crew, none(new int[] {3, 4}, 4), bad(0, 23), bad(0, 1));
        mix("crew of no boat", Clubs::fresh, Clubs.NONE, crew, none(7), bad(0, 23), bad(0, 1));
    }

    private static void river() {
        mix("water", Clubs::busy, TAKEN, (x, a) -> x.water(a[0], a[1], a[2]), none(29), bad(0, 200), bad(0, 12));
        mix("feed", Clubs::busy, TAKEN, (x, a) -> x.feed(-1L, a[0]), bad(1, 8));
        mix("feed", Clubs::brimful, Clubs.FULL, (x, a) -> x.feed(-1L, a[0]), bad(1, 8));
        mix("rule", Clubs::brimful, Clubs.FULL, (x, a) -> x.rule());
        Arg four = none(new int[] {1}, 4);
        mix("ruled", Clubs::busy, TAKEN, (x, a) -> x.ruled(a[0], a[1]), four, bad(0, 23));
        mix("may", Clubs::busy, TAKEN, (x, a) -> x.may(a[0], a[1]), none(4), bad(0, 23));
        mix("day", Clubs::busy, TAKEN, (x, a) -> x.day(a[0]), bad(12, 999));
    }

    private static void outings() {
        Asked out = (x, a) -> x.out(a[0], a[1]);
        mix("out", Clubs::busy, TAKEN, out, none(new int[] {0}, 4), bad(0, 23));
        mix("out, ashore", Clubs::busy, Clubs.STATE, out, none(new int[] {2, 3, 4}, 4), bad(0, 23));
        mix("out, full", RefusalsTest::thirtyOut, Clubs.FULL, out, none(new int[] {0}, 1), bad(0, 23));
        mix("out, ashore and full", RefusalsTest::thirtyOut, Clubs.STATE, out, none(new int[] {1}, 1), bad(0, 23));
        Arg what = new Arg(new int[] {0, 3}, Clubs.NONE, new int[] {-1, 4, Clubs.LEAST, Clubs.MOST});
        mix("outing", Clubs::busy, TAKEN, (x, a) -> x.outing(a[0], a[1]), none(3), what);
        mix("outing of none", Clubs::fresh, Clubs.NONE, (x, a) -> x.outing(a[0], a[1]), none(3), what);
    }

    /** Two singles, the second one empty, and no room for one OUTING more. */
    private static void thirtyOut(DawnEights x) {
        Clubs.single(x);
        Clubs.boats(x, 1, Clubs.SINGLE);
        for (int i = 0; i < 30; i++) {
            x.out(0, i % 24);
        }
    }

    private static void looks() {
        Asked look = (x, a) -> x.look(a[0], a[1]);
        mix("look", Clubs::busy, TAKEN, look, none(4), bad(0, 1));
        mix("look", Clubs::brimful, Clubs.FULL, look, none(7), bad(0, 1));
        Asked broke = (x, a) -> x.broke(a[0], a[1]);
        Arg what = new Arg(new int[] {0, 1, 2}, Clubs.NONE, new int[] {-1, 3, Clubs.LEAST, Clubs.MOST});
        mix("broke", Clubs::busy, TAKEN, broke, none(new int[] {1, 2}, 3), what);
        mix("broke, it did not", Clubs::busy, Clubs.STATE, broke, none(3), what);
    }

    private static void heats() {
        Asked heat = (x, a) -> x.heat(a[0], a[1]);
        mix("heat", Clubs::busy, TAKEN, heat, none(4), bad(0, 1439));
        mix("heat", Clubs::brimful, Clubs.FULL, heat, none(7), bad(0, 1439));
        mix("near", Clubs::busy, TAKEN, (x, a) -> x.near(a[0]), bad(0, 999));
        mix("shift", Clubs::busy, TAKEN, (x, a) -> x.shift(a[0]), none(3));
        Clubs.Past late = x -> {
            Clubs.boats(x, 1, Clubs.SINGLE);
            x.heat(0, 1430);
            x.heat(0, 1430);
        };
        mix("shift, no minute left", late, Clubs.STATE, (x, a) -> x.shift(a[0]), none(1));
    }

    private static void trailers() {
        Asked trailer = (x, a) -> x.trailer(a[0], a[1]);
        Arg set = new Arg(new int[] {0, 1, 31}, Clubs.BAD, new int[] {32, 33, -1, Clubs.LEAST, Clubs.MOST});
        mix("trailer", Clubs::busy, TAKEN, trailer, set, new Arg(new int[] {25, 999}, Clubs.BAD, new int[] {0, 1000}));
        Arg some = new Arg(new int[] {1, 31}, Clubs.BAD, new int[] {32, 33, -1, Clubs.LEAST, Clubs.MOST});
        mix("trailer, no way", Clubs::busy, Clubs.STATE, trailer, some,
            new Arg(new int[] {1, 9}, Clubs.BAD, new int[] {0, 1000}));
        mix("rack", Clubs::busy, TAKEN, (x, a) -> x.rack(a[0]), none(new int[] {0, 1, 3}, 4));
        mix("count", Clubs::busy, TAKEN, (x, a) -> x.count(a[0]), none(8));
        mix("about", Clubs::busy, TAKEN, (x, a) -> x.about(a[0], a[1]), none(9), none(3));
        mix("seat", Clubs::busy, TAKEN, (x, a) -> x.seat(a[0], a[1]), none(new int[] {0}, 4),
            new Arg(new int[] {0, 1}, Clubs.NONE, new int[] {-1, 2, 8, 9, Clubs.LEAST, Clubs.MOST}));
    }
}
