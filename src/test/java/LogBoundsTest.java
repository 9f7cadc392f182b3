/** The bounds of the document's section 4 and of promises 21 to 25: days, outings and looks. */
final class LogBoundsTest {
    private static final Sentences doc = new Sentences();

    public static void main(String[] args) {
        dayNotLess();
        dayAtMost();
        dayWhatItWas();
        outingsAtMost();
        outHours();
        outOfNoBoat();
        outAshore();
        looksAtMost();
        lookWhole();
        lookAtNoBoat();
        brokenTillWhole();
        brokeAtWhichLook();
        brokeBetweenLooks();
        brokeInNone();
        brokeRefused();
        outingOfEach();
        outingNone();
        doc.end("LogBoundsTest");
    }

    /** Two singles, boat b with OAR b in it. */
    private static void twoSingles(DawnEights x) {
        Clubs.oars(x, 3, Clubs.SCULLER, 60);
        Clubs.boats(x, 2, Clubs.SINGLE);
        x.sit(0, 0, 0);
        x.sit(1, 0, 1);
    }

    // ---- promise 21

    private static void dayNotLess() {
        doc.says("DAY becomes d, not less than it was");
        doc.takes("from 0", 0, (x, d) -> x.day(d), 0, 1, 29, 30);
        doc.refusesAll("from 0", Clubs.BAD, (x, d) -> x.day(d), -1, -999, Clubs.LEAST);
        doc.given(x -> x.day(500));
        doc.takes("from 500", 500, (x, d) -> x.day(d), 500, 501, 999);
        doc.refusesAll("from 500", Clubs.BAD, (x, d) -> x.day(d), 499, 0, -1, Clubs.LEAST);
        doc.answers("and it is so", 501, x -> {
            x.day(501);
            return x.count(7);
        });
        doc.given(Clubs::busy);
        doc.takes("from 12", 12, (x, d) -> x.day(d), 12, 13);
        doc.refusesAll("from 12", Clubs.BAD, (x, d) -> x.day(d), 11, 0, -1, Clubs.LEAST);
    }

    private static void dayAtMost() {
        doc.says("(999 at most)");
        doc.takes("from 0", 0, (x, d) -> x.day(d), 998, 999);
        doc.given(Clubs::busy);
        doc.refusesAll("from 12", Clubs.BAD, (x, d) -> x.day(d), 1000, 1001, Clubs.MOST);
        doc.given(x -> x.day(999));
        doc.answers("999 again", 999, x -> x.day(999));
        doc.refusesAll("from 999", Clubs.BAD, (x, d) -> x.day(d), 998, 1000, 0);
        doc.answers("an outing on it", 999, x -> {
            Clubs.single(x);
            x.out(0, 12);
            return x.outing(0, 1);
        });
    }

    private static void dayWhatItWas() {
        doc.says("(999 at most): what it was. BAD.");
        doc.given(x -> {
            x.day(7);
            x.day(1000);
            x.day(6);
        });
        doc.takes("a refused one was never so", 7, (x, d) -> x.day(d), 7, 8, 999);
    }

    // ---- promise 22

    private static void outingsAtMost() {
        doc.says("OUTINGS, 30 at most");
        for (int many : new int[] {0, 1, 28, 29}) {
            doc.given(x -> {
                Clubs.single(x);
                outs(x, many);
            });
            doc.answers("the number behind " + many, many, x -> x.out(0, 12));
        }
        doc.given(x -> {
            Clubs.single(x);
            outs(x, 30);
        });
        doc.refuses("the 31st", Clubs.FULL, x -> x.out(0, 12));
        doc.answers("still 30", 30, x -> {
            x.out(0, 12);
            return x.count(4);
        });
        doc.answers("the 30th is one", 0, x -> x.outing(29, 0));
        doc.answers("the 31st is none", Clubs.NONE, x -> x.outing(30, 0));
        doc.answers("it may go, though", 0, x -> x.may(0, 12));
        doc.given(x -> {
            twoSingles(x);
            outs(x, 30);
        });
        doc.refuses("another boat's", Clubs.FULL, x -> x.out(1, 12));
    }

    private static void outs(DawnEights x, int many) {
        for (int i = 0; i < many; i++) {
            x.out(0, i % 24);
        }
    }

    private static void outHours() {
        doc.says("An OUTING: its number. NONE; BAD: hour; STATE: ASHORE; FULL.");
        doc.given(Clubs::busy);
        doc.takes("hour", 4, (x, hour) -> x.out(0, hour), 0, 1, 22, 23);
        doc.refusesAll("hour", Clubs.BAD, (x, hour) -> x.out(0, hour), -1, 24, Clubs.LEAST, Clubs.MOST);
        doc.refusesAll("hour of one that is ashore", Clubs.BAD, (x, hour) -> x.out(2, hour), -1, 24);
    }

    private static void outOfNoBoat() {
        doc.says("NONE there is no such OAR, BOAT, SEAT, RULE, OUTING, LOOK, HEAT, what");
        doc.given(Clubs::busy);
        doc.refusesAll("boat", Clubs.NONE, (x, b) -> x.out(b, 12), -1, 5, 8, Clubs.LEAST, Clubs.MOST);
        doc.refusesAll("boat, and the hour is none", Clubs.NONE, (x, b) -> x.out(b, 24), -1, 5);
    }

    private static void outAshore() {
        doc.says("STATE: ASHORE");
        doc.given(Clubs::single);
        doc.answers("goes", 0, x -> x.out(0, 12));
        doc.given(x -> {
            Clubs.single(x);
            x.look(0, 0);
        });
        doc.refuses("1 broken", Clubs.STATE, x -> x.out(0, 12));
        doc.given(x -> {
            Clubs.single(x);
            x.sit(0, 0, -1);
        });
        doc.refuses("2 empty", Clubs.STATE, x -> x.out(0, 12));
        doc.given(x -> {
            Clubs.single(x);
            x.boat(Clubs.SINGLE, 61, 150, 10);
            x.sit(1, 0, 0);
        });
        doc.refuses("3 too light", Clubs.STATE, x -> x.out(1, 12));
        doc.given(x -> {
            Clubs.single(x);
            x.boat(Clubs.SINGLE, 30, 59, 10);
            x.sit(1, 0, 0);
        });
        doc.refuses("3 too heavy", Clubs.STATE, x -> x.out(1, 12));
        doc.given(x -> {
            Clubs.single(x);
            x.ill(0, 1);
        });
        doc.refuses("4 ill", Clubs.STATE, x -> x.out(0, 12));
        doc.given(x -> {
            Clubs.single(x);
            Check.readRule(x, "bar single if hour>11");
        });
        doc.refuses("5 barred", Clubs.STATE, x -> x.out(0, 12));
        doc.answers("not barred", 0, x -> x.out(0, 11));
        doc.given(x -> {
            Clubs.single(x);
            outs(x, 30);
            x.ill(0, 1);
        });
        doc.refuses("ashore, and full too", Clubs.STATE, x -> x.out(0, 12));
    }

    // ---- promise 23

    private static void looksAtMost() {
        doc.says("and LOOKS, 60 at most");
        for (int many : new int[] {0, 1, 58, 59}) {
            doc.given(x -> {
                Clubs.single(x);
                looks(x, many);
            });
            doc.answers("the number behind " + many, many, x -> x.look(0, 1));
        }
        doc.given(x -> {
            Clubs.single(x);
            looks(x, 60);
        });
        doc.refusesAll("the 61st", Clubs.FULL, (x, whole) -> x.look(0, whole), 0, 1);
        doc.answers("still 60", 60, x -> {
            x.look(0, 0);
            return x.count(5);
        });
        doc.answers("the 61st breaks nothing", 0, x -> {
            x.look(0, 0);
            return x.may(0, 12);
        });
        doc.answers("the 60th is one", Clubs.STATE, x -> x.broke(59, 0));
        doc.answers("the 61st is none", Clubs.NONE, x -> x.broke(60, 0));
        doc.given(x -> {
            twoSingles(x);
            looks(x, 59);
            x.look(0, 0);
        });
        doc.refuses("one more, by which it were whole", Clubs.FULL, x -> x.look(0, 1));
        doc.refuses("another boat's", Clubs.FULL, x -> x.look(1, 0));
        doc.answers("broken it stays", 1, x -> {
            x.look(0, 1);
            return x.may(0, 12);
        });
    }

    private static void looks(DawnEights x, int many) {
        for (int i = 0; i < many; i++) {
            x.look(0, 1);
        }
    }

    private static void lookWhole() {
        doc.says("A LOOK at a BOAT (whole 1, 0): its number. NONE; BAD; FULL.");
        doc.given(Clubs::busy);
        doc.takes("whole", 4, (x, whole) -> x.look(0, whole), 0, 1);
        doc.refusesAll("whole", Clubs.BAD, (x, whole) -> x.look(0, whole), -1, 2, Clubs.LEAST, Clubs.MOST);
        doc.given(Clubs::brimful);
        doc.refusesAll("whole, behind sixty", Clubs.BAD, (x, whole) -> x.look(0, whole), -1, 2);
    }

    private static void lookAtNoBoat() {
        doc.says("NONE there is no such OAR, BOAT, SEAT, RULE, OUTING, LOOK, HEAT, what");
        doc.given(Clubs::busy);
        doc.takes("boat", 4, (x, b) -> x.look(b, 1), 0, 4);
        doc.refusesAll("boat", Clubs.NONE, (x, b) -> x.look(b, 1), -1, 5, 8, Clubs.LEAST, Clubs.MOST);
        doc.refusesAll("boat, and it is not told whether whole", Clubs.NONE, (x, b) -> x.look(b, 2), -1, 5);
        doc.given(Clubs::brimful);
        doc.refusesAll("boat, behind sixty", Clubs.NONE, (x, b) -> x.look(b, 1), -1, 8);
    }

    // ---- promise 24

    private static void brokenTillWhole() {
        doc.says("A LOOK tells whether the BOAT is whole; if not it is BROKEN, till a LOOK tells that it is whole.");
        int[][] stories = {{}, {1}, {0}, {0, 0}, {0, 1}, {1, 0}, {0, 1, 0}, {1, 0, 1}, {0, 0, 0, 1}};
        for (int[] story : stories) {
            boolean broken = story.length > 0 && story[story.length - 1] == 0;
            doc.given(x -> {
                twoSingles(x);
                for (int whole : story) {
                    x.look(0, whole);
                }
            });
            doc.answers("a story of " + story.length, broken ? 1 : 0, x -> x.may(0, 12));
            doc.answers("another boat", 0, x -> x.may(1, 12));
            doc.answers("another boat is looked at", broken ? 1 : 0, x -> {
                x.look(1, broken ? 1 : 0);
                return x.may(0, 12);
            });
            doc.answers("days go by", broken ? 1 : 0, x -> {
                x.day(999);
                return x.may(0, 12);
            });
        }
    }

    private static void brokeAtWhichLook() {
        doc.says("A LOOK at which it is not whole, though it was so at the LOOK of it ahead (or there was none)");
        doc.given(x -> {
            twoSingles(x);
            int[] story = {0, 0, 1, 1, 0, 0, 1, 0};
            for (int whole : story) {
                x.look(0, whole);
                x.look(1, 1 - whole);
            }
        });
        int[] brokeAt = {0, 8, 14};
        int[] notThere = {2, 4, 6, 10, 12};
        doc.takes("broke at", 0, (x, look) -> x.broke(look, 0), brokeAt);
        doc.takes("did not at", Clubs.STATE, (x, look) -> x.broke(look, 0), notThere);
        doc.takes("the other broke at", 0, (x, look) -> x.broke(look, 0), 5, 13);
        doc.takes("the other did not at", Clubs.STATE, (x, look) -> x.broke(look, 0), 1, 3, 7, 9, 11, 15);
    }

    private static void brokeBetweenLooks() {
        doc.says("it BROKE in one of its OUTINGS between these two (or ahead of this one).");
        doc.given(x -> {
            twoSingles(x);
            x.out(1, 8);
            x.out(0, 8);
            x.out(0, 9);
            x.look(0, 0);
            x.look(0, 1);
            x.out(0, 10);
            x.look(0, 1);
            x.sit(0, 0, 2);
            x.out(0, 11);
            x.out(1, 11);
            x.look(1, 1);
            x.out(0, 12);
            x.sit(0, 0, 0);
            x.out(0, 13);
            x.look(0, 0);
            x.look(0, 1);
            x.out(0, 14);
        });
        long[] ahead = {2, 1, 0b1};
        long[] between = {3, 4, 0b100};
        for (int what = 0; what < 3; what++) {
            doc.takes("ahead of the first look, what", ahead[what], (x, of) -> x.broke(0, of), what);
            doc.takes("between two looks, what", between[what], (x, of) -> x.broke(4, of), what);
        }
        doc.given(x -> {
            Clubs.oars(x, 16, Clubs.BOTH, 60);
            x.boat(Clubs.EIGHT, 30, 150, 10);
            for (int s = 0; s < 8; s++) {
                x.sit(0, s, 8 + s);
            }
            x.sit(0, Clubs.COX, 0);
            for (int i = 0; i < 30; i++) {
                x.out(0, 12);
            }
            x.look(0, 0);
        });
        doc.answers("all thirty", 30, x -> x.broke(0, 0));
        doc.answers("the first of thirty", 0, x -> x.broke(0, 1));
        doc.answers("the greatest bits, the cox's too", 0xFF01, x -> x.broke(0, 2));
    }

    private static void brokeInNone() {
        doc.says("2 who sat in that, as bits (NONE: there is none)");
        doc.given(x -> {
            twoSingles(x);
            x.out(1, 12);
            x.look(0, 0);
            x.look(0, 1);
            x.look(0, 0);
            x.look(0, 1);
            x.out(0, 12);
        });
        for (int look : new int[] {0, 2}) {
            doc.takes("none, how many", 0, (x, of) -> x.broke(of, 0), look);
            doc.takes("none, the first", Clubs.NONE, (x, of) -> x.broke(of, 1), look);
            doc.takes("none, who sat in that", Clubs.NONE, (x, of) -> x.broke(of, 2), look);
        }
    }

    private static void brokeRefused() {
        doc.says("NONE; STATE: it did not BREAK there.");
        doc.given(Clubs::busy);
        for (int what = 0; what < 3; what++) {
            int of = what;
            doc.refusesAll("look", Clubs.NONE, (x, look) -> x.broke(look, of), -1, 4, 60, Clubs.LEAST, Clubs.MOST);
            doc.refusesAll("not there", Clubs.STATE, (x, look) -> x.broke(look, of), 0, 3);
        }
        doc.refusesAll("what", Clubs.NONE, (x, what) -> x.broke(1, what), -1, 3, Clubs.LEAST, Clubs.MOST);
        doc.refusesAll("what, of one at which it did not break", Clubs.NONE, (x, what) -> x.broke(0, what), -1, 3);
        doc.answers("the first look but one", 1, x -> x.broke(1, 0));
        doc.answers("what 2 is the last", 8, x -> x.broke(1, 2));
        doc.given(Clubs::brimful);
        doc.answers("the last look of sixty", Clubs.STATE, x -> x.broke(59, 0));
        doc.answers("none behind it", Clubs.NONE, x -> x.broke(60, 0));
    }

    // ---- promise 25

    private static void outingOfEach() {
        doc.says("Of an OUTING what 0 BOAT, 1 DAY, 2 hour, 3 who sat in it, as bits.");
        doc.given(x -> {
            Clubs.oars(x, 16, Clubs.BOTH, 60);
            Clubs.boats(x, 7, Clubs.SINGLE);
            x.boat(Clubs.FOUR, 30, 150, 10);
            for (int s = 0; s < 4; s++) {
                x.sit(7, s, 15 - s);
            }
            x.sit(7, Clubs.COX, 0);
            x.out(7, 0);
            x.day(999);
            x.sit(0, 0, 1);
            x.out(0, 23);
            x.sit(7, 0, -1);
            x.sit(0, 0, 2);
        });
        int[] first = {7, 0, 0, 0xF001};
        int[] second = {0, 999, 23, 0b10};
        for (int what = 0; what < 4; what++) {
            doc.takes("the first, what", first[what], (x, of) -> x.outing(0, of), what);
            doc.takes("the second, what", second[what], (x, of) -> x.outing(1, of), what);
        }
    }

    private static void outingNone() {
        doc.says("3 who sat in it, as bits. NONE.");
        doc.given(Clubs::busy);
        for (int what = 0; what < 4; what++) {
            int of = what;
            doc.takes("outing", Clubs.NONE, (x, i) -> x.outing(i, of), -1, 4, 29, 30, Clubs.LEAST, Clubs.MOST);
        }
        doc.takes("what", Clubs.NONE, (x, what) -> x.outing(3, what), -1, 4, Clubs.LEAST, Clubs.MOST);
        doc.answers("the last one", 11, x -> x.outing(3, 2));
        doc.given(Clubs::brimful);
        doc.answers("the last of thirty", 5, x -> x.outing(29, 2));
        doc.answers("none behind it", Clubs.NONE, x -> x.outing(30, 2));
    }
}
