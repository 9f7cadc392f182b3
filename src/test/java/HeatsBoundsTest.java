/** The bounds of the document's section 4 and of promises 26 to 32: heats, the trailer and what is counted. */
final class HeatsBoundsTest {
    private static final Sentences doc = new Sentences();

    public static void main(String[] args) {
        heatsAtMost();
        heatMinutes();
        heatOfNoBoat();
        nearMinutes();
        nearAtFirst();
        nearWhatItWas();
        clashLessThanNear();
        clashOfOneBoat();
        clashNotRoundTheClock();
        clashesOfAll();
        shiftNotAhead();
        shiftToTheLastMinute();
        shiftNone();
        trailerOfNone();
        trailerSet();
        trailerLength();
        trailerNoWay();
        trailerThreeRacks();
        trailerOfSeveral();
        trailerGreatest();
        rackOfTheLatest();
        rackNone();
        countEach();
        countNone();
        doc.end("HeatsBoundsTest");
    }

    private static Clubs.Past heats(int near, int... minutes) {
        return x -> {
            Clubs.boats(x, 2, Clubs.SINGLE);
            x.near(near);
            for (int minute : minutes) {
                x.heat(0, minute);
            }
        };
    }

    // ---- promise 26

    private static void heatsAtMost() {
        doc.says("HEATS, 20 at most");
        for (int many : new int[] {0, 1, 18, 19}) {
            doc.given(heats(30, new int[many]));
            doc.answers("the number behind " + many, many, x -> x.heat(1, 700));
        }
        doc.given(heats(30, new int[20]));
        doc.refuses("the 21st", Clubs.FULL, x -> x.heat(1, 700));
        doc.answers("still 20", 20, x -> {
            x.heat(1, 700);
            return x.count(6);
        });
        doc.answers("the 20th is one", 30, x -> x.shift(19));
        doc.answers("the 21st is none", Clubs.NONE, x -> x.shift(20));
        doc.given(Clubs::brimful).refuses("among all that is full", Clubs.FULL, x -> x.heat(0, 0));
    }

    private static void heatMinutes() {
        doc.says("each of a BOAT at a minute (0 .. 1439)");
        doc.given(Clubs::busy);
        doc.takes("minute", 4, (x, minute) -> x.heat(1, minute), 0, 1, 1438, 1439);
        for (int minute : new int[] {0, 1439}) {
            doc.answers("minute " + minute + " is kept", minute, x -> {
                x.heat(1, minute);
                return x.shift(4);
            });
        }
        doc.refusesAll("minute", Clubs.BAD, (x, minute) -> x.heat(1, minute), -1, 1440, 1441, Clubs.LEAST, Clubs.MOST);
        doc.given(Clubs::brimful);
        doc.refusesAll("minute, behind twenty", Clubs.BAD, (x, minute) -> x.heat(1, minute), -1, 1440);
    }

    private static void heatOfNoBoat() {
        doc.says("A HEAT: its number. NONE; BAD; FULL.");
        doc.given(Clubs::busy);
        doc.takes("boat", 4, (x, b) -> x.heat(b, 0), 0, 4);
        doc.refusesAll("boat", Clubs.NONE, (x, b) -> x.heat(b, 0), -1, 5, 8, Clubs.LEAST, Clubs.MOST);
        doc.refusesAll("boat, and the minute is none", Clubs.NONE, (x, b) -> x.heat(b, 1440), -1, 5);
        doc.given(Clubs::brimful);
        doc.refusesAll("boat, behind twenty", Clubs.NONE, (x, b) -> x.heat(b, 0), -1, 8);
    }

    // ---- promise 27

    private static void nearMinutes() {
        doc.says("if they are less than NEAR minutes apart (0 .. 999; 30 at first)");
        doc.given(x -> x.near(25));
        doc.takes("near", 25, (x, minutes) -> x.near(minutes), 0, 1, 998, 999);
        for (int minutes : new int[] {0, 999}) {
            doc.answers("near " + minutes + " is kept", minutes, x -> {
                x.near(minutes);
                return x.near(1);
            });
        }
        doc.given(Clubs::busy);
        doc.refusesAll("near", Clubs.BAD, (x, minutes) -> x.near(minutes), -1, 1000, Clubs.LEAST, Clubs.MOST);
    }

    private static void nearAtFirst() {
        doc.says("30 at first");
        doc.answers("what it was", 30, x -> x.near(0));
        doc.answers("29 apart", 1, x -> {
            x.boat(Clubs.SINGLE, 30, 150, 10);
            x.heat(0, 100);
            x.heat(0, 129);
            return x.clashes();
        });
        doc.answers("30 apart", 0, x -> {
            x.boat(Clubs.SINGLE, 30, 150, 10);
            x.heat(0, 100);
            x.heat(0, 130);
            return x.clashes();
        });
    }

    private static void nearWhatItWas() {
        doc.says("NEAR: what it was. BAD.");
        doc.given(x -> {
            x.near(7);
            x.near(1000);
            x.near(-1);
        });
        doc.takes("a refused one was never so", 7, (x, minutes) -> x.near(minutes), 0, 999);
    }

    // ---- promise 28

    private static void clashLessThanNear() {
        doc.says("Two CLASH, if they are less than NEAR minutes apart");
        for (int near : new int[] {0, 1, 2, 30, 998, 999}) {
            for (int apart : new int[] {near - 1, near, near + 1}) {
                if (apart >= 0) {
                    doc.given(heats(near, 200, 200 + apart));
                    doc.answers(apart + " apart, near " + near, apart < near ? 1 : 0, x -> x.clashes());
                    doc.given(heats(near, 200 + apart, 200));
                    doc.answers(apart + " apart, turned, near " + near, apart < near ? 1 : 0, x -> x.clashes());
                }
            }
        }
        doc.given(heats(0, 5, 5, 5));
        doc.answers("none clash with near 0", 0, x -> x.clashes());
        doc.given(heats(1, 5, 5, 6));
        doc.answers("but those of one minute with near 1", 1, x -> x.clashes());
    }

    private static void clashOfOneBoat() {
        doc.says("and are of one BOAT, or somebody sits in both (as they sit now).");
        doc.given(x -> {
            Clubs.oars(x, 2, Clubs.SCULLER, 60);
            Clubs.boats(x, 2, Clubs.SINGLE);
            x.sit(0, 0, 0);
            x.heat(0, 100);
            x.heat(1, 100);
        });
        doc.answers("two boats", 0, x -> x.clashes());
        doc.answers("who sat in the one sits in the other now", 0, x -> {
            x.sit(1, 0, 0);
            return x.clashes();
        });
        doc.answers("nobody in both", 0, x -> {
            x.sit(0, 0, -1);
            return x.clashes();
        });
        doc.answers("one boat, nobody in it", 1, x -> {
            x.heat(1, 129);
            return x.clashes();
        });
    }

    private static void clashNotRoundTheClock() {
        doc.says("at a minute (0 .. 1439). Two CLASH, if they are less than NEAR minutes apart");
        doc.given(heats(30, 0, 1439));
        doc.answers("the last minute is far from the first", 0, x -> x.clashes());
        doc.answers("and is not shifted", 1439, x -> x.shift(1));
        doc.answers("nor is the first", 0, x -> x.shift(0));
        doc.given(heats(999, 440, 1439));
        doc.answers("999 apart", 0, x -> x.clashes());
        doc.given(heats(999, 441, 1439));
        doc.answers("998 apart", 1, x -> x.clashes());
    }

    private static void clashesOfAll() {
        doc.says("How many pairs of HEATS CLASH.");
        doc.answers("no heat", 0, x -> x.clashes());
        doc.given(heats(30, 5));
        doc.answers("one heat", 0, x -> x.clashes());
        doc.given(heats(30, new int[20]));
        doc.answers("twenty at once", 190, x -> x.clashes());
        doc.answers("twenty at once, near 0", 0, x -> {
            x.near(0);
            return x.clashes();
        });
        doc.given(heats(30, 0, 29, 58, 87));
        doc.answers("a chain", 3, x -> x.clashes());
    }

    // ---- promise 29

    private static void shiftNotAhead() {
        doc.says("The least minute, not ahead of its own one, at which a HEAT would CLASH with none.");
        doc.given(heats(30, 100));
        doc.answers("alone", 100, x -> x.shift(0));
        doc.given(heats(30, 100, 70));
        doc.answers("just behind another", 100, x -> x.shift(0));
        doc.answers("just ahead of another", 70, x -> x.shift(1));
        doc.given(heats(30, 100, 71));
        doc.answers("one minute too near", 101, x -> x.shift(0));
        doc.answers("not to 70, ahead of it", 130, x -> x.shift(1));
        doc.given(heats(30, 100, 100));
        doc.takes("both of one minute", 130, (x, heat) -> x.shift(heat), 0, 1);
        doc.given(heats(30, 100, 101, 161));
        doc.answers("a gap of 60 is wide enough", 131, x -> x.shift(0));
        doc.given(heats(30, 100, 101, 160));
        doc.answers("a gap of 59 is not", 190, x -> x.shift(0));
        doc.given(heats(30, 100, 220, 190, 160, 130, 101));
        doc.answers("a chain, told backwards", 250, x -> x.shift(0));
        doc.answers("it is asked, not done", 250, x -> {
            x.shift(0);
            return x.shift(0);
        });
        doc.given(heats(0, 100, 100));
        doc.answers("near 0", 100, x -> x.shift(0));
        doc.given(x -> {
            heats(30, 100, 70).live(x);
            x.heat(1, 100);
            x.heat(1, 80);
        });
        doc.answers("another boat's are of no matter", 100, x -> x.shift(0));
    }

    private static void shiftToTheLastMinute() {
        doc.says("STATE: none.");
        doc.given(heats(30, 1409, 1409));
        doc.answers("to the last minute", 1439, x -> x.shift(0));
        doc.given(heats(30, 1410, 1410));
        doc.refuses("past it", Clubs.STATE, x -> x.shift(0));
        doc.given(heats(30, 1439, 1439));
        doc.refuses("in the last minute", Clubs.STATE, x -> x.shift(1));
        doc.given(heats(1, 1438, 1438));
        doc.answers("near 1, to the last minute", 1439, x -> x.shift(0));
        doc.given(heats(1, 1439, 1439));
        doc.refuses("near 1, past it", Clubs.STATE, x -> x.shift(0));
        doc.given(heats(999, 440, 440));
        doc.answers("near 999, to the last minute", 1439, x -> x.shift(0));
        doc.given(heats(999, 441, 441));
        doc.refuses("near 999, past it", Clubs.STATE, x -> x.shift(0));
        doc.given(heats(999, 0, 998));
        doc.refuses("over one that is past it", Clubs.STATE, x -> x.shift(0));
        int[] twenty = new int[20];
        for (int i = 1; i < 20; i++) {
            twenty[i] = 75 * (i - 1);
        }
        doc.given(heats(75, twenty));
        doc.answers("over nineteen", 1425, x -> x.shift(0));
        doc.given(heats(76, twenty));
        doc.answers("over nineteen, nearer", 1426, x -> x.shift(0));
        doc.given(heats(90, twenty));
        doc.refuses("over nineteen, past it", Clubs.STATE, x -> x.shift(0));
    }

    private static void shiftNone() {
        doc.says("at which a HEAT would CLASH with none. NONE;");
        doc.given(Clubs::busy);
        doc.refusesAll("heat", Clubs.NONE, (x, heat) -> x.shift(heat), -1, 4, 19, 20, Clubs.LEAST, Clubs.MOST);
        doc.answers("the last heat", 1435, x -> x.shift(3));
        doc.given(Clubs::brimful);
        doc.refusesAll("heat", Clubs.NONE, (x, heat) -> x.shift(heat), -1, 20);
        doc.answers("the last of twenty", 950, x -> x.shift(19));
    }

    // ---- promise 30

    private static Clubs.Past lengths(int... lengths) {
        return x -> {
            for (int length : lengths) {
                x.boat(Clubs.SINGLE, 30, 150, length);
            }
        };
    }

    private static void lies(String call, int... racks) {
        for (int b = 0; b < racks.length; b++) {
            doc.takes(call + ": rack of", racks[b], (x, of) -> x.rack(of), b);
        }
    }

    private static void trailerOfNone() {
        doc.says("TRAILER of a set of BOATS (bits; of none: 0)");
        doc.takes("no boat there, length", 0, (x, length) -> x.trailer(0, length), 1, 999);
        doc.given(Clubs::busy);
        doc.takes("none of them, length", 0, (x, length) -> x.trailer(0, length), 1, 999);
        doc.refusesAll("none of them, length", Clubs.BAD, (x, length) -> x.trailer(0, length), 0, 1000);
        doc.takes("then no boat lies there", Clubs.NONE, (x, b) -> {
            x.trailer(0, 1);
            return x.rack(b);
        }, 0, 1, 2, 3, 4);
    }

    private static void trailerSet() {
        doc.says("NONE there is no such OAR, BOAT, SEAT, RULE, OUTING, LOOK, HEAT, what; BAD a number is not as told");
        for (int many = 0; many <= 8; many++) {
            int there = many;
            doc.given(x -> Clubs.boats(x, there, Clubs.SINGLE));
            if (many > 0) {
                doc.answers("all of " + many, 10 * ((many + 2) / 3), x -> x.trailer((1 << there) - 1, 999));
                doc.answers("the last of " + many, 10, x -> x.trailer(1 << there - 1, 999));
            }
            doc.refuses("one behind " + many, Clubs.BAD, x -> x.trailer(1 << there, 999));
            doc.refuses("all and one behind " + many, Clubs.BAD, x -> x.trailer((2 << there) - 1, 999));
        }
        doc.refusesAll("set", Clubs.BAD, (x, set) -> x.trailer(set, 999),
            256, 257, 1 << 30, -1, Clubs.LEAST, Clubs.LEAST + 1, Clubs.MOST);
    }

    private static void trailerLength() {
        doc.says("no row longer than length (1 .. 999): the longest row.");
        doc.given(lengths(1));
        doc.takes("length", 1, (x, length) -> x.trailer(1, length), 1, 2, 998, 999);
        doc.given(Clubs::busy);
        doc.refusesAll("length", Clubs.BAD, (x, length) -> x.trailer(1, length), 0, 1000, -1, Clubs.LEAST, Clubs.MOST);
        doc.refusesAll("length, and the set is none", Clubs.BAD, (x, length) -> x.trailer(32, length), 0, 1, 1000);
    }

    private static void trailerNoWay() {
        doc.says("STATE: there is no way.");
        doc.given(lengths(10));
        doc.answers("as long as told", 10, x -> x.trailer(1, 10));
        doc.refuses("one too long", Clubs.STATE, x -> x.trailer(1, 9));
        doc.given(lengths(99, 99, 99, 99));
        doc.answers("four: two on one rack", 198, x -> x.trailer(15, 198));
        doc.refuses("one too long for that", Clubs.STATE, x -> x.trailer(15, 197));
        doc.answers("three of them", 99, x -> x.trailer(7, 99));
        doc.refuses("three of them, one too long", Clubs.STATE, x -> x.trailer(7, 98));
        doc.given(lengths(1));
        doc.answers("the shortest", 1, x -> x.trailer(1, 1));
        doc.given(lengths(2));
        doc.refuses("the shortest but one", Clubs.STATE, x -> x.trailer(1, 1));
    }

    private static void trailerThreeRacks() {
        doc.says("A TRAILER has three racks; BOATS of a set lie on these, one behind the other: the way by which the "
            + "longest row is shortest, and not longer than told");
        doc.given(lengths(5, 6, 7));
        doc.answers("one each", 7, x -> x.trailer(7, 999));
        doc.given(lengths(5, 6, 7, 1));
        doc.answers("a fourth", 7, x -> x.trailer(15, 999));
        doc.given(lengths(5, 5, 4, 4, 3, 3, 3));
        doc.answers("nine each", 9, x -> x.trailer(127, 999));
        doc.answers("nine each, told so", 9, x -> x.trailer(127, 9));
        doc.refuses("not eight", Clubs.STATE, x -> x.trailer(127, 8));
    }

    private static void trailerOfSeveral() {
        doc.says("of several the one in which the BOAT with the least number lies on the lesser rack, then the next one.");
        doc.given(x -> {
            lengths(4, 4, 4, 4).live(x);
            x.trailer(15, 999);
        });
        lies("four alike", 0, 0, 1, 1);
        doc.given(x -> {
            lengths(4, 4, 4, 4).live(x);
            x.trailer(14, 999);
        });
        lies("three alike", Clubs.NONE, 0, 1, 2);
        doc.given(x -> {
            lengths(1, 1, 9, 1).live(x);
            x.trailer(15, 999);
        });
        lies("short ones behind one another", 0, 0, 1, 0);
        doc.given(x -> {
            lengths(1, 1, 2).live(x);
            x.trailer(7, 999);
        });
        lies("as long as the longest", 0, 0, 1);
        doc.given(x -> {
            lengths(2, 2, 3).live(x);
            x.trailer(7, 999);
        });
        lies("too long behind one another", 0, 1, 2);
        doc.given(x -> {
            lengths(4, 4, 4, 4).live(x);
            x.trailer(15, 8);
        });
        lies("told just as long", 0, 0, 1, 1);
    }

    private static void trailerGreatest() {
        doc.says("BOATS are numbered from 0 on, 8 at most");
        doc.given(lengths(99, 99, 99, 99, 99, 99, 99, 99));
        doc.answers("eight of the longest", 297, x -> x.trailer(255, 999));
        doc.answers("eight of the longest, told so", 297, x -> x.trailer(255, 297));
        doc.refuses("one too long for that", Clubs.STATE, x -> x.trailer(255, 296));
        doc.given(x -> {
            lengths(99, 99, 99, 99, 99, 99, 99, 99).live(x);
            x.trailer(255, 999);
        });
        lies("eight of the longest", 0, 0, 0, 1, 1, 1, 2, 2);
        doc.given(lengths(1, 1, 1, 1, 1, 1, 1, 1));
        doc.answers("eight of the shortest", 3, x -> x.trailer(255, 3));
        doc.refuses("eight of the shortest, one too long", Clubs.STATE, x -> x.trailer(255, 2));
    }

    // ---- promise 31

    private static void rackOfTheLatest() {
        doc.says("The rack (0 .. 2) of a BOAT in the latest trailer() that was not refused.");
        Clubs.Past loaded = x -> {
            lengths(5, 6, 7).live(x);
            x.trailer(7, 999);
        };
        doc.given(loaded);
        lies("the latest", 0, 1, 2);
        Twins.Call[] refused = {
            x -> x.trailer(3, 4), x -> x.trailer(8, 999), x -> x.trailer(-1, 999), x -> x.trailer(3, 0),
            x -> x.trailer(0, 1000), x -> x.trailer(6, 6),
        };
        for (Twins.Call call : refused) {
            doc.given(x -> {
                loaded.live(x);
                call.of(x);
            });
            lies("a refused one behind it", 0, 1, 2);
        }
        doc.given(x -> {
            loaded.live(x);
            x.trailer(6, 999);
        });
        lies("another one behind it", Clubs.NONE, 0, 1);
        doc.given(x -> {
            loaded.live(x);
            x.trailer(0, 999);
        });
        lies("one of none behind it", Clubs.NONE, Clubs.NONE, Clubs.NONE);
    }

    private static void rackNone() {
        doc.says("NONE: not in it.");
        doc.takes("no boat", Clubs.NONE, (x, b) -> x.rack(b), -1, 0, 7, 8, Clubs.LEAST, Clubs.MOST);
        doc.given(Clubs::brimful);
        doc.takes("no boat", Clubs.NONE, (x, b) -> x.rack(b), -1, 8, 9, Clubs.LEAST, Clubs.MOST);
        lies("those in it", 0, Clubs.NONE, 1, Clubs.NONE, 1, 0, Clubs.NONE, 2);
        doc.given(lengths(5, 6, 7));
        lies("no trailer yet", Clubs.NONE, Clubs.NONE, Clubs.NONE);
        doc.given(x -> {
            lengths(5, 6, 7).live(x);
            x.trailer(7, 4);
        });
        lies("the only trailer was refused", Clubs.NONE, Clubs.NONE, Clubs.NONE);
        doc.given(x -> {
            lengths(5, 6).live(x);
            x.trailer(3, 999);
            x.boat(Clubs.SINGLE, 30, 150, 7);
        });
        lies("a boat that came later", 0, 1, Clubs.NONE);
    }

    // ---- promise 32

    private static void countEach() {
        doc.says("0 OARS, 1 BOATS, 2 RACES, 3 RULES, 4 OUTINGS, 5 LOOKS, 6 HEATS, 7 DAY, 8 bytes of THE TAPE.");
        int[] busy = {10, 5, 5, 3, 4, 4, 4, 12, 10};
        int[] brimful = {16, 8, 40, 10, 30, 60, 20, 3, 120};
        for (int what = 0; what <= 8; what++) {
            doc.takes("nothing, what", 0, (x, of) -> x.count(of), what);
            doc.given(Clubs::busy).takes("some, what", busy[what], (x, of) -> x.count(of), what);
            doc.given(Clubs::brimful).takes("all, what", brimful[what], (x, of) -> x.count(of), what);
            doc.given(Clubs::fresh);
        }
    }

    private static void countNone() {
        doc.says("8 bytes of THE TAPE. NONE.");
        doc.given(Clubs::busy);
        doc.takes("what", Clubs.NONE, (x, what) -> x.count(what), -1, 9, 10, Clubs.LEAST, Clubs.MOST);
    }
}
