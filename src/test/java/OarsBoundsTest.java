/** The bounds of the document's section 1 and of promises 1 to 7: oars, boats, seats and who may go. */
final class OarsBoundsTest {
    private static final Sentences doc = new Sentences();

    public static void main(String[] args) {
        nobodyIsThere();
        watersAreNought();
        dayIsNought();
        oarsAtMost();
        oarKinds();
        oarWeights();
        oarBadAheadOfFull();
        boatsAtMost();
        boatKinds();
        boatMeanWeights();
        boatLengths();
        boatBadAheadOfFull();
        seatsOfEachKind();
        coxOfEachKind();
        sideOfEachSeat();
        youngAndIll();
        illIsOneOrNought();
        illOfNoOar();
        oneSeatAtMost();
        coxWeighsSeventy();
        sitNobody();
        sitNoneSuch();
        sitIllOrHeavy();
        seatNobodyToo();
        aboutNowhere();
        aboutNone();
        doc.end("OarsBoundsTest");
    }

    // ---- promise 1

    private static void nobodyIsThere() {
        doc.says("Nobody, nothing is there; DAY 0; WATERS are 0.");
        doc.takes("count", 0, (x, what) -> x.count(what), 0, 1, 2, 3, 4, 5, 6, 7, 8);
        doc.answers("about", Clubs.NONE, x -> x.about(0, 0));
        doc.answers("seat", Clubs.NONE, x -> x.seat(0, 0));
        doc.answers("group", Clubs.NONE, x -> x.group(0));
        doc.answers("strength", Clubs.NO, x -> x.strength(0, 0));
        doc.answers("between", Clubs.NO, x -> x.between(0, 0, 0));
        doc.answers("misfit", Clubs.NO, x -> x.misfit(0, 1));
        doc.answers("sure", Clubs.NONE, x -> x.sure(0, 1));
        doc.answers("ruled", Clubs.NONE, x -> x.ruled(0, 0));
        doc.answers("may", Clubs.NONE, x -> x.may(0, 0));
        doc.answers("broke", Clubs.NONE, x -> x.broke(0, 0));
        doc.answers("outing", Clubs.NONE, x -> x.outing(0, 0));
        doc.answers("shift", Clubs.NONE, x -> x.shift(0));
        doc.answers("rack", Clubs.NONE, x -> x.rack(0));
        doc.answers("clashes", 0, x -> x.clashes());
        doc.refuses("unrace", Clubs.STATE, x -> x.unrace());
        doc.refuses("ill", Clubs.NONE, x -> x.ill(0, 1));
        doc.refuses("sit", Clubs.NO_SUCH, x -> x.sit(0, 0, -1));
        doc.refuses("race", Clubs.NONE, x -> x.race(0, 1, 5));
        doc.refuses("crew", Clubs.NONE, x -> x.crew(0, 12, 1));
        doc.refuses("out", Clubs.NONE, x -> x.out(0, 12));
        doc.refuses("look", Clubs.NONE, x -> x.look(0, 1));
        doc.refuses("heat", Clubs.NONE, x -> x.heat(0, 0));
        doc.refuses("trailer of a boat", Clubs.BAD, x -> x.trailer(1, 999));
    }

    private static void watersAreNought() {
        doc.says("WATERS are 0.");
        for (int d = 0; d < 30; d++) {
            int today = d;
            doc.given(x -> {
                Clubs.single(x);
                Check.readRule(x, "let * if stream=0&wind=0");
                x.day(today);
            });
            doc.answers("the water of " + d, 0, x -> x.ruled(0, 12));
        }
    }

    private static void dayIsNought() {
        doc.says("DAY 0");
        doc.answers("day", 0, x -> x.day(5));
        doc.answers("count", 0, x -> x.count(7));
        doc.given(Clubs::single).answers("an outing's day", 0, x -> {
            x.out(0, 12);
            return x.outing(0, 1);
        });
    }

    // ---- promise 2

    private static void oarsAtMost() {
        doc.says("OARS are numbered from 0 on, 16 at most");
        for (int many = 0; many < 16; many++) {
            int there = many;
            doc.given(x -> Clubs.oars(x, there, Clubs.BOTH, 60));
            doc.answers("the number behind " + many, many, x -> x.oar(Clubs.BOW, 80));
            doc.answers("how many then", many + 1, x -> {
                x.oar(Clubs.BOW, 80);
                return x.count(0);
            });
        }
        doc.given(x -> Clubs.oars(x, 16, Clubs.BOTH, 60));
        doc.refuses("the 17th", Clubs.FULL, x -> x.oar(Clubs.BOW, 80));
        doc.answers("still 16", 16, x -> {
            x.oar(Clubs.BOW, 80);
            return x.count(0);
        });
        doc.answers("the 16th is one", Clubs.BOTH, x -> x.about(15, 0));
        doc.answers("the 17th is none", Clubs.NONE, x -> x.about(16, 0));
        doc.given(Clubs::brimful).refuses("among all that is full", Clubs.FULL, x -> x.oar(Clubs.BOW, 80));
    }

    private static void oarKinds() {
        doc.says("0 BOW, 1 STROKE, 2 BOTH, 3 SCULLER, 4 YOUNG.");
        doc.takes("kind", 0, (x, kind) -> x.oar(kind, 60), 0, 1, 2, 3, 4);
        for (int kind = 0; kind < 5; kind++) {
            int of = kind;
            doc.answers("kind " + kind + " is kept", kind, x -> {
                x.oar(of, 60);
                return x.about(0, 0);
            });
        }
        doc.given(Clubs::busy);
        doc.refusesAll("kind", Clubs.BAD, (x, kind) -> x.oar(kind, 60), -1, 5, Clubs.LEAST, Clubs.MOST);
    }

    private static void oarWeights() {
        doc.says("with a weight (30 ..");
        doc.says("150): 0 BOW");
        doc.takes("weight", 0, (x, weight) -> x.oar(Clubs.BOW, weight), 30, 31, 149, 150);
        doc.takes("the least weight is kept", 30, (x, weight) -> weightOf(x, weight), 30);
        doc.takes("the greatest weight is kept", 150, (x, weight) -> weightOf(x, weight), 150);
        doc.given(Clubs::busy);
        doc.refusesAll("weight", Clubs.BAD, (x, weight) -> x.oar(Clubs.BOW, weight),
            29, 151, 0, -30, Clubs.LEAST, Clubs.MOST);
    }

    private static int weightOf(DawnEights x, int weight) {
        x.oar(Clubs.BOW, weight);
        return x.about(0, 1);
    }

    private static void oarBadAheadOfFull() {
        doc.says("An OAR more: its number. BAD; FULL.");
        doc.given(Clubs::brimful);
        doc.refusesAll("kind", Clubs.BAD, (x, kind) -> x.oar(kind, 60), -1, 5);
        doc.refusesAll("weight", Clubs.BAD, (x, weight) -> x.oar(Clubs.BOW, weight), 29, 151);
        doc.refusesAll("kind that there is", Clubs.FULL, (x, kind) -> x.oar(kind, 60), 0, 4);
        doc.given(Clubs::busy).takes("its number", 10, (x, kind) -> x.oar(kind, 60), 0, 4);
    }

    // ---- promise 3

    private static void boatsAtMost() {
        doc.says("BOATS are numbered from 0 on, 8 at most");
        for (int many = 0; many < 8; many++) {
            int there = many;
            doc.given(x -> Clubs.boats(x, there, Clubs.PAIR));
            doc.answers("the number behind " + many, many, x -> x.boat(Clubs.SINGLE, 30, 150, 5));
            doc.answers("how many then", many + 1, x -> {
                x.boat(Clubs.SINGLE, 30, 150, 5);
                return x.count(1);
            });
        }
        doc.given(x -> Clubs.boats(x, 8, Clubs.PAIR));
        doc.refuses("the ninth", Clubs.FULL, x -> x.boat(Clubs.SINGLE, 30, 150, 5));
        doc.answers("still 8", 8, x -> {
            x.boat(Clubs.SINGLE, 30, 150, 5);
            return x.count(1);
        });
        doc.answers("the eighth is one", 2, x -> x.may(7, 12));
        doc.answers("the ninth is none", Clubs.NONE, x -> x.may(8, 12));
        doc.given(Clubs::brimful).refuses("among all that is full", Clubs.FULL, x -> x.boat(Clubs.PAIR, 30, 150, 5));
    }

    private static void boatKinds() {
        doc.says("0 pair (2 SEATS), 1 four (4, and a COX), 2 eight (8, and a COX), 3 single (1), 4 quad (4)");
        doc.takes("kind", 0, (x, kind) -> x.boat(kind, 30, 150, 10), 0, 1, 2, 3, 4);
        doc.given(Clubs::busy);
        doc.refusesAll("kind", Clubs.BAD, (x, kind) -> x.boat(kind, 30, 150, 10), -1, 5, Clubs.LEAST, Clubs.MOST);
    }

    private static void boatMeanWeights() {
        doc.says("with a least and a greatest mean weight (30 .. 150)");
        doc.takes("least", 0, (x, least) -> x.boat(Clubs.PAIR, least, 150, 10), 30, 31, 149, 150);
        doc.takes("greatest", 0, (x, most) -> x.boat(Clubs.PAIR, 30, most, 10), 30, 31, 149, 150);
        doc.takes("both", 0, (x, both) -> x.boat(Clubs.PAIR, both, both, 10), 30, 90, 150);
        doc.given(Clubs::busy);
        doc.refusesAll("least", Clubs.BAD, (x, least) -> x.boat(Clubs.PAIR, least, 150, 10),
            29, 151, 0, Clubs.LEAST, Clubs.MOST);
        doc.refusesAll("greatest", Clubs.BAD, (x, most) -> x.boat(Clubs.PAIR, 30, most, 10),
            29, 151, 0, Clubs.LEAST, Clubs.MOST);
        doc.refusesAll("both", Clubs.BAD, (x, both) -> x.boat(Clubs.PAIR, both, both, 10), 29, 151);
        doc.refusesAll("a greatest one below the least, 90", Clubs.BAD,
            (x, most) -> x.boat(Clubs.PAIR, 90, most, 10), 89, 30);
        meanWeightsHold();
    }

    private static void meanWeightsHold() {
        for (int weight : new int[] {30, 150}) {
            doc.given(x -> {
                x.oar(Clubs.BOW, weight);
                x.boat(Clubs.SINGLE, weight, weight, 10);
                x.sit(0, 0, 0);
            });
            doc.answers("one of " + weight + " in a boat for that alone", 0, x -> x.may(0, 12));
        }
    }

    private static void boatLengths() {
        doc.says("and a length (1 .. 99)");
        doc.takes("length", 0, (x, length) -> x.boat(Clubs.PAIR, 30, 150, length), 1, 2, 98, 99);
        for (int length : new int[] {1, 99}) {
            doc.given(x -> x.boat(Clubs.PAIR, 30, 150, length));
            doc.answers("a row of " + length, length, x -> x.trailer(1, 999));
        }
        doc.given(Clubs::busy);
        doc.refusesAll("length", Clubs.BAD, (x, length) -> x.boat(Clubs.PAIR, 30, 150, length),
            0, 100, -1, Clubs.LEAST, Clubs.MOST);
    }

    private static void boatBadAheadOfFull() {
        doc.says("A BOAT more: its number. BAD; FULL.");
        doc.given(Clubs::brimful);
        doc.refusesAll("kind", Clubs.BAD, (x, kind) -> x.boat(kind, 30, 150, 10), -1, 5);
        doc.refusesAll("least", Clubs.BAD, (x, least) -> x.boat(Clubs.PAIR, least, 150, 10), 29, 151);
        doc.refusesAll("greatest", Clubs.BAD, (x, most) -> x.boat(Clubs.PAIR, 30, most, 10), 29, 151);
        doc.refusesAll("length", Clubs.BAD, (x, length) -> x.boat(Clubs.PAIR, 30, 150, length), 0, 100);
        doc.refusesAll("kind that there is", Clubs.FULL, (x, kind) -> x.boat(kind, 30, 150, 10), 0, 4);
        doc.given(Clubs::busy).takes("its number", 5, (x, kind) -> x.boat(kind, 30, 150, 10), 0, 4);
    }

    // ---- seats and sides

    private static void seatsOfEachKind() {
        doc.says("SEATS are numbered from 0 on; the COX's is 8.");
        for (int kind = 0; kind < 5; kind++) {
            int of = kind;
            int seats = Clubs.SEATS[kind];
            doc.given(x -> {
                x.oar(Clubs.BOTH, 60);
                x.boat(of, 30, 150, 10);
                x.boat(Clubs.EIGHT, 30, 150, 10);
                x.sit(1, 0, 0);
            });
            for (int s = 0; s < seats; s++) {
                int on = s;
                doc.answers(Clubs.KIND_NAMES[kind] + ", to seat " + s, Clubs.NONE, x -> x.sit(0, on, 0));
                doc.answers(Clubs.KIND_NAMES[kind] + ", on seat " + s, 0, x -> {
                    x.sit(0, on, 0);
                    return x.seat(0, on);
                });
            }
            for (int s = seats; s < 8; s++) {
                int on = s;
                doc.refuses(Clubs.KIND_NAMES[kind] + ", to seat " + s, Clubs.NO_SUCH, x -> x.sit(0, on, 0));
                doc.answers(Clubs.KIND_NAMES[kind] + ", on seat " + s, Clubs.NONE, x -> x.seat(0, on));
            }
            doc.refusesAll(Clubs.KIND_NAMES[kind] + ", to seat", Clubs.NO_SUCH, (x, s) -> x.sit(0, s, 0),
                -1, 9, 10, -10, Clubs.LEAST, Clubs.MOST);
            doc.takes(Clubs.KIND_NAMES[kind] + ", on seat", Clubs.NONE, (x, s) -> x.seat(0, s),
                -1, 9, 10, 18, Clubs.LEAST, Clubs.MOST);
        }
    }

    private static void coxOfEachKind() {
        doc.says("1 four (4, and a COX), 2 eight (8, and a COX)");
        for (int kind = 0; kind < 5; kind++) {
            int of = kind;
            doc.given(x -> {
                x.oar(Clubs.BOTH, 60);
                x.boat(of, 30, 150, 10);
            });
            if (kind == Clubs.FOUR || kind == Clubs.EIGHT) {
                doc.answers(Clubs.KIND_NAMES[kind] + "'s cox", Clubs.NONE, x -> x.sit(0, Clubs.COX, 0));
                doc.answers(Clubs.KIND_NAMES[kind] + "'s cox sits", 0, x -> {
                    x.sit(0, Clubs.COX, 0);
                    return x.seat(0, Clubs.COX);
                });
                doc.answers(Clubs.KIND_NAMES[kind] + "'s cox is on 8", 8, x -> {
                    x.sit(0, Clubs.COX, 0);
                    return x.about(0, 3);
                });
            } else {
                doc.refuses(Clubs.KIND_NAMES[kind] + "'s cox", Clubs.NO_SUCH, x -> x.sit(0, Clubs.COX, 0));
                doc.refuses("nobody as its cox", Clubs.NO_SUCH, x -> x.sit(0, Clubs.COX, -1));
                doc.answers(Clubs.KIND_NAMES[kind] + " has none", Clubs.NONE, x -> x.seat(0, Clubs.COX));
            }
        }
    }

    /** Of a whole crew of BOTH but one, nobody moves: the cost is what that one DISLIKES, and 1 for each other sculler. */
    private static void sideOfEachSeat() {
        doc.says("in KINDS 0, 1, 2 bow (0) if its number is even, stroke (1) if it is odd; in 3, 4 both (2: sculls).");
        doc.says("WHO DISLIKES a SIDE: BOW and STROKE: their own 0, the other one 2, sculls 3; BOTH and YOUNG: "
            + "bow and stroke 0, sculls 1; SCULLER: bow and stroke 2, sculls 0.");
        int[][] dislikes = {{0, 2, 3}, {2, 0, 3}, {0, 0, 1}, {2, 2, 0}, {0, 0, 1}};
        for (int boatKind = 0; boatKind < 5; boatKind++) {
            for (int s = 0; s < Clubs.SEATS[boatKind]; s++) {
                int side = boatKind >= 3 ? 2 : s % 2;
                int others = boatKind >= 3 ? Clubs.SEATS[boatKind] - 1 : 0;
                for (int kind = 0; kind < 5; kind++) {
                    int[] made = {boatKind, s, kind};
                    doc.given(x -> allBothButOne(x, made[0], made[1], made[2]));
                    doc.answers("kind " + kind + " on seat " + s + " of a " + Clubs.KIND_NAMES[boatKind],
                        dislikes[kind][side] + others, x -> x.crew(0, 12, 0));
                }
            }
        }
    }

    private static void allBothButOne(DawnEights x, int boatKind, int seat, int kind) {
        x.boat(boatKind, 30, 150, 10);
        for (int s = 0; s < Clubs.SEATS[boatKind]; s++) {
            x.oar(s == seat ? kind : Clubs.BOTH, 60);
            x.sit(0, s, s);
        }
    }

    private static void youngAndIll() {
        doc.says("A YOUNG one may not be out at an hour below 7, an ILL one never.");
        doc.given(x -> {
            x.oar(Clubs.YOUNG, 60);
            x.boat(Clubs.SINGLE, 30, 150, 10);
            x.sit(0, 0, 0);
        });
        doc.takes("young, may at", 4, (x, hour) -> x.may(0, hour), 0, 1, 2, 3, 4, 5, 6);
        doc.takes("young, may at", 0, (x, hour) -> x.may(0, hour), 7, 8, 22, 23);
        doc.refusesAll("young, out at", Clubs.STATE, (x, hour) -> x.out(0, hour), 0, 6);
        doc.takes("young, out at", 0, (x, hour) -> x.out(0, hour), 7, 23);
        doc.refusesAll("young, crew at", Clubs.STATE, (x, hour) -> x.crew(0, hour, 1), 0, 6);
        doc.takes("young, crew at", 1, (x, hour) -> x.crew(0, hour, 1), 7, 23);
        for (int kind = 0; kind < 5; kind++) {
            int of = kind;
            doc.given(x -> {
                x.oar(of, 60);
                x.boat(Clubs.PAIR, 30, 150, 10);
                x.boat(Clubs.SINGLE, 30, 150, 10);
                x.sit(1, 0, 0);
                x.ill(0, 1);
            });
            doc.takes("ill, may at", 4, (x, hour) -> x.may(1, hour), 0, 6, 7, 23);
            doc.refusesAll("ill, out at", Clubs.STATE, (x, hour) -> x.out(1, hour), 0, 6, 7, 23);
            doc.refusesAll("ill, crew at", Clubs.STATE, (x, hour) -> x.crew(1, hour, 1), 0, 6, 7, 23);
        }
        for (int kind = 0; kind < 4; kind++) {
            int of = kind;
            doc.given(x -> {
                x.oar(of, 60);
                x.boat(Clubs.SINGLE, 30, 150, 10);
                x.sit(0, 0, 0);
            });
            doc.takes("kind " + kind + " may at", 0, (x, hour) -> x.may(0, hour), 0, 6, 7, 23);
        }
    }

    // ---- promise 4

    private static void illIsOneOrNought() {
        doc.says("An OAR is ILL (1), well (0): what it was. NONE; BAD.");
        doc.given(x -> x.oar(Clubs.BOW, 60));
        doc.takes("well at first", 0, (x, is) -> x.ill(0, is), 0, 1);
        doc.answers("what it was", 1, x -> {
            x.ill(0, 1);
            return x.ill(0, 0);
        });
        doc.answers("what it was, again", 1, x -> {
            x.ill(0, 1);
            return x.ill(0, 1);
        });
        doc.given(Clubs::busy);
        doc.refusesAll("a well one", Clubs.BAD, (x, is) -> x.ill(0, is), -1, 2, Clubs.LEAST, Clubs.MOST);
        doc.refusesAll("an ill one", Clubs.BAD, (x, is) -> x.ill(6, is), -1, 2, Clubs.LEAST, Clubs.MOST);
    }

    private static void illOfNoOar() {
        doc.says("NONE there is no such OAR");
        doc.given(Clubs::busy);
        doc.takes("an oar", 0, (x, o) -> x.ill(o, 1), 0, 9);
        doc.refusesAll("no such oar", Clubs.NONE, (x, o) -> x.ill(o, 1), -1, 10, 15, 16, Clubs.LEAST, Clubs.MOST);
        doc.given(Clubs::brimful);
        doc.takes("the 16th", 0, (x, o) -> x.ill(o, 1), 15);
        doc.refusesAll("no such oar", Clubs.NONE, (x, o) -> x.ill(o, 1), -1, 16);
    }

    // ---- promise 5

    private static void oneSeatAtMost() {
        doc.says("An OAR sits in one SEAT at most, of all BOATS.");
        doc.given(Clubs::busy);
        doc.answers("to another boat's seat", Clubs.NONE, x -> x.sit(3, 7, 0));
        doc.answers("the old one is empty", Clubs.NONE, x -> {
            x.sit(3, 7, 0);
            return x.seat(0, 0);
        });
        doc.answers("to another one's seat", 1, x -> x.sit(0, 1, 0));
        doc.answers("who sat there sits nowhere", Clubs.NONE, x -> {
            x.sit(0, 1, 0);
            return x.about(1, 3);
        });
        doc.answers("a cox takes a seat", 2, x -> x.sit(1, 0, 4));
        doc.answers("and is the cox no more", Clubs.NONE, x -> {
            x.sit(1, 0, 4);
            return x.seat(1, Clubs.COX);
        });
        doc.answers("its own seat", 0, x -> x.sit(0, 0, 0));
        doc.answers("where it stays", 0, x -> {
            x.sit(0, 0, 0);
            return x.seat(0, 0);
        });
        doc.answers("seats of one oar", 1, x -> {
            int found = 0;
            x.sit(4, 3, 2);
            for (int b = 0; b < 5; b++) {
                for (int s = 0; s < 9; s++) {
                    found += x.seat(b, s) == 2 ? 1 : 0;
                }
            }
            return found;
        });
    }

    private static void coxWeighsSeventy() {
        doc.says("A COX weighs 70 at most.");
        for (int kind : new int[] {Clubs.FOUR, Clubs.EIGHT}) {
            doc.given(x -> {
                x.boat(kind, 30, 150, 10);
                for (int weight : new int[] {30, 70, 71, 150}) {
                    x.oar(Clubs.BOTH, weight);
                }
            });
            doc.takes("oar", Clubs.NONE, (x, o) -> x.sit(0, Clubs.COX, o), 0, 1);
            doc.refusesAll("oar", Clubs.STATE, (x, o) -> x.sit(0, Clubs.COX, o), 2, 3);
            doc.takes("on a seat, oar", Clubs.NONE, (x, o) -> x.sit(0, 0, o), 0, 1, 2, 3);
            doc.takes("on the last seat, oar", Clubs.NONE,
                (x, o) -> x.sit(0, Clubs.SEATS[kind] - 1, o), 0, 1, 2, 3);
        }
    }

    private static void sitNobody() {
        doc.says("o -1: nobody: who sat there (NONE: nobody).");
        doc.given(Clubs::busy);
        doc.answers("where 0 sat", 0, x -> x.sit(0, 0, -1));
        doc.answers("0 sits nowhere", Clubs.NONE, x -> {
            x.sit(0, 0, -1);
            return x.about(0, 3);
        });
        doc.answers("the cox", 4, x -> x.sit(1, Clubs.COX, -1));
        doc.refuses("where nobody sat", Clubs.NONE, x -> x.sit(3, 0, -1));
        doc.answers("an ill one is taken away", 0, x -> {
            x.ill(0, 1);
            return x.sit(0, 0, -1);
        });
        doc.refusesAll("oar", Clubs.NO_SUCH, (x, o) -> x.sit(0, 0, o), -2, -5, Clubs.LEAST);
    }

    private static void sitNoneSuch() {
        doc.says("-5: there is none such");
        doc.given(Clubs::busy);
        doc.refusesAll("boat", Clubs.NO_SUCH, (x, b) -> x.sit(b, 0, 8), -1, 5, 7, 8, Clubs.LEAST, Clubs.MOST);
        doc.refusesAll("nobody in boat", Clubs.NO_SUCH, (x, b) -> x.sit(b, 0, -1), -1, 5, 8);
        doc.refusesAll("oar", Clubs.NO_SUCH, (x, o) -> x.sit(0, 0, o), 10, 15, 16, Clubs.MOST);
        doc.refusesAll("seat of the pair", Clubs.NO_SUCH, (x, s) -> x.sit(0, s, 8), -1, 2, 8, 9);
        doc.refusesAll("an ill one to seat", Clubs.NO_SUCH, (x, s) -> x.sit(0, s, 6), -1, 2, 8, 9);
        doc.refusesAll("an ill one to boat", Clubs.NO_SUCH, (x, b) -> x.sit(b, 0, 6), -1, 5);
        doc.takes("the last boat", Clubs.NONE, (x, b) -> x.sit(b, 0, 8), 4);
        doc.takes("the last oar", 3, (x, o) -> x.sit(2, 0, o), 9);
        doc.given(Clubs::brimful);
        doc.answers("the 16th oar in the eighth boat", Clubs.NONE, x -> x.sit(7, 0, 15));
        doc.refuses("a 17th", Clubs.NO_SUCH, x -> x.sit(7, 0, 16));
        doc.refuses("a ninth", Clubs.NO_SUCH, x -> x.sit(8, 0, 15));
    }

    private static void sitIllOrHeavy() {
        doc.says("STATE: it is ILL, or too heavy for a COX.");
        doc.given(Clubs::busy);
        doc.refuses("an ill one to an empty seat", Clubs.STATE, x -> x.sit(3, 0, 6));
        doc.refuses("an ill one to another's", Clubs.STATE, x -> x.sit(0, 0, 6));
        doc.refuses("an ill one, too heavy", Clubs.STATE, x -> x.sit(3, Clubs.COX, 6));
        doc.refuses("a heavy one in the cox's stead", Clubs.STATE, x -> x.sit(1, Clubs.COX, 0));
        doc.answers("the ill one is well", Clubs.NONE, x -> {
            x.ill(6, 0);
            return x.sit(3, 0, 6);
        });
        doc.answers("who falls ill keeps its seat", 0, x -> {
            x.ill(0, 1);
            return x.seat(0, 0);
        });
        doc.given(x -> {
            Clubs.single(x);
            x.ill(0, 1);
        });
        doc.refuses("but may not take it again", Clubs.STATE, x -> x.sit(0, 0, 0));
    }

    // ---- promises 6 and 7

    private static void seatNobodyToo() {
        doc.says("Who sits on a SEAT. NONE: nobody, too.");
        doc.given(Clubs::busy);
        doc.answers("somebody", 9, x -> x.seat(1, 3));
        doc.answers("nobody", Clubs.NONE, x -> x.seat(3, 0));
        doc.answers("no cox", Clubs.NONE, x -> x.seat(3, Clubs.COX));
        doc.takes("no such seat", Clubs.NONE, (x, s) -> x.seat(1, s), -1, 4, 7, 9, 13, Clubs.LEAST, Clubs.MOST);
        doc.takes("no such boat", Clubs.NONE, (x, b) -> x.seat(b, 0), -1, 5, 8, Clubs.LEAST, Clubs.MOST);
    }

    private static void aboutNowhere() {
        doc.says("3 10 times the BOAT and the SEAT (NONE)");
        doc.given(x -> {
            x.oar(Clubs.BOTH, 60);
            Clubs.boats(x, 8, Clubs.EIGHT);
        });
        doc.answers("nowhere", Clubs.NONE, x -> x.about(0, 3));
        doc.answers("the first seat of all", 0, x -> {
            x.sit(0, 0, 0);
            return x.about(0, 3);
        });
        doc.answers("the last seat of all", 77, x -> {
            x.sit(7, 7, 0);
            return x.about(0, 3);
        });
        doc.answers("the last cox", 78, x -> {
            x.sit(7, Clubs.COX, 0);
            return x.about(0, 3);
        });
    }

    private static void aboutNone() {
        doc.says("Of an OAR what 0 KIND, 1 weight, 2 whether it is ILL, 3 10 times the BOAT and the SEAT (NONE). NONE.");
        doc.given(Clubs::busy);
        int[] want = {Clubs.YOUNG, 55, 0, 13};
        for (int what = 0; what < 4; what++) {
            doc.takes("oar 9, what", want[what], (x, of) -> x.about(9, of), what);
        }
        doc.answers("an ill one", 1, x -> x.about(6, 2));
        doc.takes("what", Clubs.NONE, (x, what) -> x.about(9, what), -1, 4, Clubs.LEAST, Clubs.MOST);
        doc.takes("oar", Clubs.NONE, (x, o) -> x.about(o, 0), -1, 10, 15, 16, Clubs.LEAST, Clubs.MOST);
    }
}
