/** The bounds of the document's section 2 and of promises 8 to 15: races, strengths and crews. */
final class RacesBoundsTest {
    private static final Sentences doc = new Sentences();

    public static void main(String[] args) {
        racesAtMost();
        racesByHowMuch();
        raceOfOneselfOrNobody();
        unraceNone();
        groupAlone();
        groupOfAll();
        groupNone();
        strengthOfSevenAtMost();
        strengthOfTheLeast();
        strengthInLowestTerms();
        strengthsFarthestApart();
        strengthNo();
        betweenNo();
        misfitWithoutSign();
        misfitNo();
        sureWhoIsBetter();
        sureTellsNothing();
        sureRefused();
        crewHourAndDoes();
        crewOfNoBoat();
        crewOfAllSeats();
        crewTooFew();
        crewWhoMayBeTaken();
        crewCosts();
        crewMovesForFour();
        crewOfTheLastBoat();
        crewLeastSum();
        crewOfSeveral();
        crewSitsNowhere();
        doc.end("RacesBoundsTest");
    }

    private static void oars(DawnEights x, int many) {
        Clubs.oars(x, many, Clubs.BOTH, 60);
    }

    private static void races(DawnEights x, int many) {
        for (int i = 0; i < many; i++) {
            x.race(0, 1, i);
        }
    }

    // ---- promises 8 and 9

    private static void racesAtMost() {
        doc.says("RACES, 40 at most");
        for (int many : new int[] {0, 1, 38, 39}) {
            doc.given(x -> {
                oars(x, 2);
                races(x, many);
            });
            doc.answers("behind " + many, many + 1, x -> x.race(1, 0, 5));
        }
        doc.given(x -> {
            oars(x, 2);
            races(x, 40);
        });
        doc.refuses("the 41st", Clubs.FULL, x -> x.race(1, 0, 5));
        doc.answers("still 40", 40, x -> {
            x.race(1, 0, 5);
            return x.count(2);
        });
        doc.answers("room again", 40, x -> {
            x.unrace();
            return x.race(1, 0, 5);
        });
        doc.answers("and none then", Clubs.FULL, x -> {
            x.unrace();
            x.race(1, 0, 5);
            return x.race(1, 0, 5);
        });
        doc.given(Clubs::brimful).refuses("among all that is full", Clubs.FULL, x -> x.race(14, 15, 0));
    }

    private static void racesByHowMuch() {
        doc.says("x is better than y by so much (-999 .. 999)");
        doc.given(x -> oars(x, 2));
        doc.takes("by", 1, (x, by) -> x.race(0, 1, by), -999, -998, -1, 0, 1, 998, 999);
        for (int by : new int[] {-999, 999}) {
            doc.answers("by " + by + " is kept", by, x -> {
                x.race(0, 1, by);
                return x.between(0, 1, 0);
            });
        }
        doc.given(Clubs::busy);
        doc.refusesAll("by", Clubs.BAD, (x, by) -> x.race(0, 1, by), -1000, 1000, Clubs.LEAST, Clubs.MOST);
    }

    private static void raceOfOneselfOrNobody() {
        doc.says("A RACE: how many there are. NONE; BAD: x is y, by; FULL.");
        doc.given(Clubs::busy);
        doc.refusesAll("x is y", Clubs.BAD, (x, o) -> x.race(o, o, 5), 0, 9);
        doc.refuses("x is y by 0", Clubs.BAD, x -> x.race(3, 3, 0));
        doc.refusesAll("no x", Clubs.NONE, (x, o) -> x.race(o, 0, 5), -1, 10, 16, Clubs.LEAST, Clubs.MOST);
        doc.refusesAll("no y", Clubs.NONE, (x, o) -> x.race(0, o, 5), -1, 10, 16, Clubs.LEAST, Clubs.MOST);
        doc.refusesAll("neither, and x is y", Clubs.NONE, (x, o) -> x.race(o, o, 5), -1, 10);
        doc.takes("the last oar", 6, (x, o) -> x.race(0, o, 5), 9);
        doc.takes("the last oar is x", 6, (x, o) -> x.race(o, 0, 5), 9);
    }

    private static void unraceNone() {
        doc.says("The latest RACE is taken back: how many there are. STATE: none.");
        doc.refuses("a new object", Clubs.STATE, x -> x.unrace());
        doc.given(x -> {
            oars(x, 2);
            x.race(0, 1, 5);
        });
        doc.answers("the only one", 0, x -> x.unrace());
        doc.answers("it hangs together no more", 1, x -> {
            x.unrace();
            return x.group(1);
        });
        doc.given(x -> {
            oars(x, 2);
            x.race(0, 1, 5);
            x.unrace();
        });
        doc.refuses("none any more", Clubs.STATE, x -> x.unrace());
        doc.given(Clubs::brimful);
        doc.answers("of forty", 39, x -> x.unrace());
        doc.answers("all of forty, and one more", Clubs.STATE, x -> {
            for (int i = 0; i < 40; i++) {
                x.unrace();
            }
            return x.unrace();
        });
        doc.given(x -> {
            oars(x, 3);
            x.race(0, 1, 5);
            x.race(1, 2, 7);
        });
        doc.answers("the latest, not the first", 5, x -> {
            x.unrace();
            return x.between(0, 1, 0);
        });
    }

    // ---- promise 10

    private static void groupAlone() {
        doc.says("A GROUP: all OARS that hang together by RACES.");
        doc.given(x -> oars(x, 16));
        doc.takes("the first alone", 0, (x, o) -> x.group(o), 0);
        doc.takes("the last alone", 15, (x, o) -> x.group(o), 15);
        doc.given(x -> {
            oars(x, 16);
            x.race(15, 14, 0);
        });
        doc.takes("a race by 0 ties too", 14, (x, o) -> x.group(o), 14, 15);
        doc.takes("none else", 13, (x, o) -> x.group(o), 13);
    }

    private static void groupOfAll() {
        doc.says("The least OAR of a GROUP.");
        doc.given(x -> {
            oars(x, 16);
            for (int o = 15; o > 0; o--) {
                x.race(o - 1, o, 1);
            }
        });
        doc.takes("a chain of 16", 0, (x, o) -> x.group(o), 0, 1, 7, 14, 15);
        doc.given(x -> {
            oars(x, 16);
            for (int o = 0; o < 15; o++) {
                x.race(o, o + 1, 1);
            }
        });
        doc.takes("the same, the other way", 0, (x, o) -> x.group(o), 0, 1, 7, 14, 15);
        doc.given(x -> {
            oars(x, 16);
            for (int i = 0; i < 40; i++) {
                x.race(15, 8, i);
            }
        });
        doc.takes("forty races of two", 8, (x, o) -> x.group(o), 8, 15);
    }

    private static void groupNone() {
        doc.says("The least OAR of a GROUP. NONE.");
        doc.given(Clubs::busy);
        doc.takes("oar", Clubs.NONE, (x, o) -> x.group(o), -1, 10, 15, 16, 31, 32, Clubs.LEAST, Clubs.MOST);
        doc.given(Clubs::brimful);
        doc.takes("oar", Clubs.NONE, (x, o) -> x.group(o), -1, 16, 32);
    }

    // ---- promises 11, 12 and 13

    /** A chain of so many OARS, of 16. */
    private static void chain(DawnEights x, int first, int many) {
        for (int o = first; o < first + many - 1; o++) {
            x.race(o, o + 1, 2);
        }
    }

    private static void strengthOfSevenAtMost() {
        doc.says("STRENGTHS of a GROUP (7 OARS at most)");
        for (int many = 1; many <= 7; many++) {
            int there = many;
            doc.given(x -> {
                oars(x, 16);
                chain(x, 3, there);
            });
            doc.answers("the last of " + many, -2 * (many - 1), x -> x.strength(3 + there - 1, 0));
            doc.answers("its line", 1, x -> x.strength(3 + there - 1, 1));
            doc.answers("misfit of " + many, 0, x -> x.misfit(3, 0));
            doc.answers("between of " + many, 2 * (many - 1), x -> x.between(3, 3 + there - 1, 0));
        }
        for (int many : new int[] {8, 9, 13}) {
            doc.given(x -> {
                oars(x, 16);
                chain(x, 3, many);
            });
            for (int what = 0; what < 2; what++) {
                int of = what;
                doc.takes("strength in " + many, Clubs.NO, (x, o) -> x.strength(o, of), 3, 4, 9, 10);
                doc.takes("misfit in " + many, Clubs.NO, (x, o) -> x.misfit(o, of), 3, 4, 9, 10);
                doc.takes("between in " + many, Clubs.NO, (x, o) -> x.between(3, o, of), 3, 4, 9, 10);
            }
            doc.takes("the group is told still", 3, (x, o) -> x.group(o), 3, 10);
            doc.answers("one alone beside it", 0, x -> x.strength(0, 0));
            doc.answers("one alone beside it, below", 1, x -> x.strength(0, 1));
        }
        doc.given(x -> {
            oars(x, 16);
            chain(x, 3, 8);
            x.unrace();
        });
        doc.answers("seven again", -12, x -> x.strength(9, 0));
        doc.given(x -> {
            oars(x, 16);
            chain(x, 0, 7);
            chain(x, 7, 7);
        });
        doc.answers("two groups of seven", -12, x -> x.strength(6, 0));
        doc.answers("the other one", -12, x -> x.strength(13, 0));
        doc.answers("tied by a race", Clubs.NO, x -> {
            x.race(0, 13, 0);
            return x.strength(6, 0);
        });
    }

    private static void strengthOfTheLeast() {
        doc.says("that of its least OAR is 0");
        doc.given(x -> {
            oars(x, 16);
            x.race(9, 5, 999);
            x.race(7, 5, -3);
        });
        doc.answers("the least", 0, x -> x.strength(5, 0));
        doc.answers("the least, below", 1, x -> x.strength(5, 1));
        doc.answers("one that is better", 999, x -> x.strength(9, 0));
        doc.answers("one that is worse", -3, x -> x.strength(7, 0));
        doc.answers("nobody's race", 0, x -> x.strength(15, 0));
        doc.answers("nobody's race, below", 1, x -> x.strength(15, 1));
        doc.answers("nobody's misfit", 0, x -> x.misfit(15, 0));
        doc.answers("nobody's misfit, below", 1, x -> x.misfit(15, 1));
    }

    private static void strengthInLowestTerms() {
        doc.says("what is above (what 0), below (1) the line, without a common divisor, below above 0.");
        doc.given(x -> {
            oars(x, 2);
            x.race(1, 0, 3);
            x.race(1, 0, 6);
            x.race(1, 0, 6);
            x.race(1, 0, 7);
        });
        doc.answers("22 / 4", 11, x -> x.strength(1, 0));
        doc.answers("22 / 4, below", 2, x -> x.strength(1, 1));
        doc.answers("0 less 22 / 4", -11, x -> x.between(0, 1, 0));
        doc.answers("0 less 22 / 4, below", 2, x -> x.between(0, 1, 1));
        doc.answers("5/2, 1/2, 1/2 and 3/2", 5, x -> x.misfit(0, 0));
        doc.answers("5/2, 1/2, 1/2 and 3/2, below", 1, x -> x.misfit(0, 1));
        doc.given(x -> {
            oars(x, 2);
            x.race(0, 1, 5);
            x.race(1, 0, 5);
        });
        doc.answers("nought", 0, x -> x.strength(1, 0));
        doc.answers("nought, below", 1, x -> x.strength(1, 1));
        doc.given(x -> {
            oars(x, 2);
            x.race(0, 1, 1);
            x.race(0, 1, 0);
        });
        doc.answers("-1/2", -1, x -> x.strength(1, 0));
        doc.answers("-1/2, below", 2, x -> x.strength(1, 1));
    }

    /** Each of seven against each: an OAR's STRENGTH is the mean of its leads, less that of the least one. */
    private static void strengthsFarthestApart() {
        doc.says("the others are fractions such that the squares of (x's less y's less by), of all its RACES, "
            + "together are least.");
        int[] leads = new int[7];
        for (int i = 0; i < 7; i++) {
            for (int j = 0; j < i; j++) {
                leads[i] += leadOf(i, j);
                leads[j] -= leadOf(i, j);
            }
        }
        doc.given(x -> {
            oars(x, 16);
            for (int i = 0; i < 7; i++) {
                for (int j = 0; j < i; j++) {
                    x.race(i, j, leadOf(i, j));
                }
            }
        });
        for (int o = 0; o < 7; o++) {
            int of = o;
            int above = leads[o] - leads[0];
            int divisor = above % 7 == 0 ? 7 : 1;
            doc.answers("strength of " + o, above / divisor, x -> x.strength(of, 0));
            doc.answers("strength of " + o + ", below", 7 / divisor, x -> x.strength(of, 1));
        }
        doc.given(x -> {
            oars(x, 2);
            for (int i = 0; i < 40; i++) {
                x.race(i % 2, 1 - i % 2, 999);
            }
        });
        doc.answers("forty, each way", 0, x -> x.between(0, 1, 0));
        doc.answers("the greatest misfit", 40 * 999, x -> x.misfit(1, 0));
        doc.answers("the greatest misfit, below", 1, x -> x.misfit(1, 1));
    }

    private static int leadOf(int i, int j) {
        return (i * j) % 3 == 0 ? 999 : (i + j) % 2 == 0 ? -999 : 998;
    }

    private static void strengthNo() {
        doc.says("NO: none such, a GROUP of more than 7.");
        doc.given(Clubs::busy);
        for (int what = 0; what < 2; what++) {
            int of = what;
            doc.takes("oar", Clubs.NO, (x, o) -> x.strength(o, of), -1, 10, 15, 16, 32, Clubs.LEAST, Clubs.MOST);
        }
        doc.takes("what", Clubs.NO, (x, what) -> x.strength(0, what), -1, 2, Clubs.LEAST, Clubs.MOST);
        doc.takes("what of one alone", Clubs.NO, (x, what) -> x.strength(9, what), -1, 2);
        doc.refuses("nothing is changed by it", Clubs.NO, x -> x.strength(10, 0));
    }

    private static void betweenNo() {
        doc.says("STRENGTH of x less that of y, likewise. NO: likewise, of two GROUPS.");
        doc.given(Clubs::busy);
        doc.takes("x", Clubs.NO, (x, o) -> x.between(o, 0, 0), -1, 10, 16, 32, Clubs.LEAST, Clubs.MOST);
        doc.takes("y", Clubs.NO, (x, o) -> x.between(0, o, 0), -1, 10, 16, 32, Clubs.LEAST, Clubs.MOST);
        doc.takes("no x, no y", Clubs.NO, (x, o) -> x.between(o, o, 0), -1, 10);
        doc.takes("what", Clubs.NO, (x, what) -> x.between(0, 1, what), -1, 2, Clubs.LEAST, Clubs.MOST);
        doc.takes("of two groups", Clubs.NO, (x, o) -> x.between(0, o, 0), 5, 6, 3, 9);
        doc.takes("of two groups, the other way", Clubs.NO, (x, o) -> x.between(o, 0, 1), 5, 6, 3, 9);
        doc.answers("two alone", Clubs.NO, x -> x.between(8, 9, 0));
        doc.takes("one less itself", 0, (x, o) -> x.between(o, o, 0), 0, 5, 9);
        doc.takes("one less itself, below", 1, (x, o) -> x.between(o, o, 1), 0, 5, 9);
        doc.answers("of one group", 999, x -> x.between(5, 7, 0));
        doc.answers("of one group, the other way", -999, x -> x.between(7, 5, 0));
    }

    private static void misfitWithoutSign() {
        doc.says("MISFIT of a GROUP: what (x's less y's less by) of its RACES are together, each without sign.");
        doc.given(x -> {
            oars(x, 4);
            x.race(0, 1, 999);
            x.race(0, 1, -999);
            x.race(2, 3, 8);
        });
        doc.takes("one above, one below", 1998, (x, o) -> x.misfit(o, 0), 0, 1);
        doc.takes("another group's races are of no matter", 0, (x, o) -> x.misfit(o, 0), 2, 3);
        doc.given(x -> {
            oars(x, 2);
            x.race(0, 1, 1);
            x.race(1, 0, 1);
            x.race(0, 1, 0);
        });
        doc.takes("1, 1 and nought", 2, (x, o) -> x.misfit(o, 0), 0, 1);
        doc.given(x -> {
            oars(x, 2);
            x.race(0, 1, 0);
            x.race(0, 1, 0);
            x.race(0, 1, 1);
        });
        // 1/3, 1/3 and 2/3
        doc.takes("thirds, above", 4, (x, o) -> x.misfit(o, 0), 0, 1);
        doc.takes("thirds, below", 3, (x, o) -> x.misfit(o, 1), 0, 1);
    }

    private static void misfitNo() {
        doc.says("MISFIT of the GROUP of an OAR, likewise. NO.");
        doc.given(Clubs::busy);
        doc.takes("oar", Clubs.NO, (x, o) -> x.misfit(o, 0), -1, 10, 16, 32, Clubs.LEAST, Clubs.MOST);
        doc.takes("what", Clubs.NO, (x, what) -> x.misfit(0, what), -1, 2, Clubs.LEAST, Clubs.MOST);
        doc.takes("3 too much in a ring of 3, each by 1", 3, (x, o) -> x.misfit(o, 0), 0, 1, 2);
        doc.takes("a chain fits", 0, (x, o) -> x.misfit(o, 0), 5, 6, 7);
    }

    // ---- promise 14

    private static void sureWhoIsBetter() {
        doc.says("1 better: some RACE of both tells so, and none the contrary; 2 y is, likewise");
        doc.given(x -> {
            oars(x, 4);
            x.race(0, 1, 1);
            x.race(1, 2, 999);
            x.race(3, 0, -1);
            x.race(0, 3, 999);
        });
        doc.answers("by 1", 1, x -> x.sure(0, 1));
        doc.answers("by 1, of the other", 2, x -> x.sure(1, 0));
        doc.answers("by -1 and by 999, told both ways", 1, x -> x.sure(0, 3));
        doc.answers("no race of both", 0, x -> x.sure(0, 2));
        doc.answers("one contrary of three", 0, x -> {
            x.race(3, 0, 1);
            return x.sure(0, 3);
        });
        doc.answers("the contrary is taken back", 1, x -> {
            x.race(3, 0, 1);
            x.unrace();
            return x.sure(0, 3);
        });
    }

    private static void sureTellsNothing() {
        doc.says("0 else (by 0 tells nothing).");
        int[][] leads = {{}, {0}, {1}, {-1}, {999}, {-999}, {1, 0}, {-1, 0}, {1, -1}, {-1, 1}, {0, 0}, {2, 3, -1}};
        int[] want = {0, 0, 1, 2, 1, 2, 1, 2, 0, 0, 0, 0};
        int[] turned = {0, 2, 1};
        for (int i = 0; i < leads.length; i++) {
            int[] by = leads[i];
            doc.given(x -> {
                oars(x, 3);
                for (int lead : by) {
                    x.race(0, 1, lead);
                }
                x.race(0, 2, 9);
                x.race(2, 1, 9);
            });
            doc.answers("case " + i, want[i], x -> x.sure(0, 1));
            doc.answers("case " + i + " turned", turned[want[i]], x -> x.sure(1, 0));
            doc.given(x -> {
                oars(x, 3);
                for (int lead : by) {
                    x.race(1, 0, -lead);
                }
            });
            doc.answers("case " + i + ", raced the other way", want[i], x -> x.sure(0, 1));
        }
    }

    private static void sureRefused() {
        doc.says("SURE. NONE; BAD: x is y.");
        doc.given(Clubs::busy);
        doc.refusesAll("x", Clubs.NONE, (x, o) -> x.sure(o, 0), -1, 10, 16, Clubs.LEAST, Clubs.MOST);
        doc.refusesAll("y", Clubs.NONE, (x, o) -> x.sure(0, o), -1, 10, 16, Clubs.LEAST, Clubs.MOST);
        doc.refusesAll("x is y", Clubs.BAD, (x, o) -> x.sure(o, o), 0, 9);
        doc.refusesAll("x is y, but there is none", Clubs.NONE, (x, o) -> x.sure(o, o), -1, 10);
        doc.answers("the last oar", 0, x -> x.sure(9, 0));
    }

    // ---- promise 15

    private static void crewHourAndDoes() {
        doc.says("BAD: hour (0 .. 23), does");
        doc.given(Clubs::single);
        doc.takes("hour", 0, (x, hour) -> x.crew(0, hour, 1), 0, 1, 22, 23);
        doc.takes("does", 0, (x, does) -> x.crew(0, 12, does), 0, 1);
        doc.given(Clubs::busy);
        doc.refusesAll("hour", Clubs.BAD, (x, hour) -> x.crew(0, hour, 1), -1, 24, Clubs.LEAST, Clubs.MOST);
        doc.refusesAll("does", Clubs.BAD, (x, does) -> x.crew(0, 12, does), -1, 2, Clubs.LEAST, Clubs.MOST);
        doc.refusesAll("hour of one that has too few", Clubs.BAD, (x, hour) -> x.crew(3, hour, 1), -1, 24);
        doc.refusesAll("does of one that has too few", Clubs.BAD, (x, does) -> x.crew(3, 12, does), -1, 2);
    }

    private static void crewOfNoBoat() {
        doc.says("CREW: its cost; with does 1 it sits so then. NONE;");
        doc.given(Clubs::busy);
        doc.refusesAll("boat", Clubs.NONE, (x, b) -> x.crew(b, 12, 1), -1, 5, 7, 8, Clubs.LEAST, Clubs.MOST);
        doc.refusesAll("boat, and the hour is none", Clubs.NONE, (x, b) -> x.crew(b, 24, 2), -1, 5);
        doc.given(x -> {
            oars(x, 1);
            Clubs.boats(x, 8, Clubs.SINGLE);
        });
        doc.answers("the last boat", 6, x -> x.crew(7, 12, 1));
        doc.answers("does 0 seats nobody", Clubs.NONE, x -> {
            x.crew(7, 12, 0);
            return x.seat(7, 0);
        });
        doc.answers("does 1 seats them", 0, x -> {
            x.crew(7, 12, 1);
            return x.seat(7, 0);
        });
    }

    private static void crewOfAllSeats() {
        doc.says("CREW of a BOAT at an hour: all its SEATS (not the COX's) are filled");
        for (int kind = 0; kind < 5; kind++) {
            int of = kind;
            doc.given(x -> {
                oars(x, 16);
                x.boat(of, 30, 150, 10);
                x.crew(0, 12, 1);
            });
            for (int s = 0; s < 9; s++) {
                doc.takes(Clubs.KIND_NAMES[kind] + ", seat", s < Clubs.SEATS[kind] ? s : Clubs.NONE,
                    (x, on) -> x.seat(0, on), s);
            }
        }
    }

    private static void crewTooFew() {
        doc.says("STATE: there are too few.");
        for (int kind = 0; kind < 5; kind++) {
            int of = kind;
            int seats = Clubs.SEATS[kind];
            int sculls = kind >= 3 ? seats : 0;
            doc.given(x -> {
                x.boat(of, 30, 150, 10);
                oars(x, seats - 1);
            });
            doc.refuses(Clubs.KIND_NAMES[kind] + " with one too few", Clubs.STATE, x -> x.crew(0, 12, 1));
            doc.refuses(Clubs.KIND_NAMES[kind] + " with one too few, only asked", Clubs.STATE, x -> x.crew(0, 12, 0));
            doc.given(x -> {
                x.boat(of, 30, 150, 10);
                oars(x, seats);
            });
            doc.answers(Clubs.KIND_NAMES[kind] + " with just enough", 5 * seats + sculls, x -> x.crew(0, 12, 1));
            doc.given(x -> {
                x.boat(of, 30, 150, 10);
                oars(x, 16);
            });
            doc.answers(Clubs.KIND_NAMES[kind] + " with sixteen", 5 * seats + sculls, x -> x.crew(0, 12, 1));
        }
        doc.given(x -> {
            x.boat(Clubs.FOUR, 30, 150, 10);
            oars(x, 4);
            x.sit(0, 0, 3);
            x.sit(0, 2, 1);
            x.ill(3, 1);
        });
        doc.refuses("those who sit in it stay", Clubs.STATE, x -> x.crew(0, 12, 1));
    }

    /** A single, and one OAR of whom it is told whether the CREW may have it. */
    private static void crewWhoMayBeTaken() {
        doc.says("filled by OARS that may be out then, do not sit in another BOAT, and are not its COX");
        doc.given(x -> {
            x.oar(Clubs.SCULLER, 60);
            x.boat(Clubs.SINGLE, 30, 150, 10);
            x.boat(Clubs.FOUR, 30, 150, 10);
        });
        doc.answers("one who is free", 5, x -> x.crew(0, 12, 0));
        doc.answers("one who is ill", Clubs.STATE, x -> {
            x.ill(0, 1);
            return x.crew(0, 12, 0);
        });
        doc.answers("one who sits in another boat", Clubs.STATE, x -> {
            x.sit(1, 0, 0);
            return x.crew(0, 12, 0);
        });
        doc.answers("one who is another boat's cox", Clubs.STATE, x -> {
            x.sit(1, Clubs.COX, 0);
            return x.crew(0, 12, 0);
        });
        doc.given(x -> {
            oars(x, 4);
            x.boat(Clubs.FOUR, 30, 150, 10);
            x.sit(0, Clubs.COX, 3);
        });
        doc.refuses("its own cox", Clubs.STATE, x -> x.crew(0, 12, 1));
        doc.answers("a cox no more", 20, x -> {
            x.sit(0, Clubs.COX, -1);
            return x.crew(0, 12, 0);
        });
        doc.given(x -> {
            x.oar(Clubs.YOUNG, 60);
            x.boat(Clubs.SINGLE, 30, 150, 10);
        });
        doc.refuses("a young one at 6", Clubs.STATE, x -> x.crew(0, 6, 1));
        doc.answers("a young one at 7", 6, x -> x.crew(0, 7, 1));
    }

    private static void crewCosts() {
        doc.says("the cost of each: 0 if it has this SEAT already, 4 if it has another one of this BOAT, else 5; "
            + "and what it DISLIKES.");
        doc.given(x -> {
            oars(x, 2);
            x.boat(Clubs.PAIR, 30, 150, 10);
        });
        doc.answers("both from nowhere", 10, x -> x.crew(0, 12, 0));
        doc.answers("one has its seat", 5, x -> {
            x.sit(0, 1, 0);
            return x.crew(0, 12, 0);
        });
        doc.answers("both have their seats", 0, x -> {
            x.sit(0, 1, 0);
            x.sit(0, 0, 1);
            return x.crew(0, 12, 0);
        });
        doc.given(x -> {
            x.oar(Clubs.BOW, 60);
            x.oar(Clubs.BOW, 60);
            x.oar(Clubs.BOW, 60);
            x.oar(Clubs.STROKE, 60);
            x.boat(Clubs.FOUR, 30, 150, 10);
            x.sit(0, 1, 0);
            x.sit(0, 2, 1);
            x.sit(0, 3, 2);
        });
        // OARS 0 and 2 stay on the side that they dislike, 2 each; OAR 3 comes to the other one, 5 and 2
        doc.answers("all stay, each on the wrong side", 11, x -> x.crew(0, 12, 0));
        doc.given(x -> {
            x.oar(Clubs.STROKE, 60);
            x.oar(Clubs.STROKE, 60);
            x.boat(Clubs.PAIR, 30, 150, 10);
            x.sit(0, 0, 0);
        });
        // to stay: 2, and 5 for the other; to change: 4, and 5 and 2 for the other
        doc.answers("to stay is cheaper than to change", 7, x -> x.crew(0, 12, 1));
        doc.answers("so it stays", 0, x -> {
            x.crew(0, 12, 1);
            return x.seat(0, 0);
        });
    }

    /** To move pays off, at best, as much as it costs: of several the one in which OAR 0 has the least SEAT. */
    private static void crewMovesForFour() {
        doc.says("4 if it has another one of this BOAT, else 5");
        doc.given(x -> {
            x.oar(Clubs.BOW, 60);
            x.oar(Clubs.STROKE, 60);
            x.boat(Clubs.PAIR, 30, 150, 10);
            x.sit(0, 1, 0);
        });
        // to stay: 2, and 5 and 2; to change: 4, and 5
        doc.answers("to stay or to change", 9, x -> x.crew(0, 12, 1));
        doc.answers("oar 0 changes", 0, x -> {
            x.crew(0, 12, 1);
            return x.about(0, 3);
        });
        doc.answers("oar 1 comes", 1, x -> {
            x.crew(0, 12, 1);
            return x.about(1, 3);
        });
        doc.given(x -> {
            x.oar(Clubs.BOW, 60);
            x.oar(Clubs.BOTH, 60);
            x.boat(Clubs.PAIR, 30, 150, 10);
            x.sit(0, 1, 0);
        });
        // to stay: 2, and 5; to change: 4, and 5
        doc.answers("to stay is cheaper", 7, x -> x.crew(0, 12, 1));
        doc.answers("oar 0 stays", 1, x -> {
            x.crew(0, 12, 1);
            return x.about(0, 3);
        });
    }

    private static void crewOfTheLastBoat() {
        doc.says("0 if it has this SEAT already");
        doc.given(x -> {
            oars(x, 16);
            Clubs.boats(x, 8, Clubs.EIGHT);
            x.sit(7, Clubs.COX, 0);
            x.crew(7, 12, 1);
        });
        for (int s = 0; s < 8; s++) {
            doc.takes("seat", s + 1, (x, on) -> x.seat(7, on), s);
        }
        doc.answers("all have their seats", 0, x -> x.crew(7, 12, 1));
        doc.answers("the cox is not taken", 0, x -> x.seat(7, Clubs.COX));
        doc.answers("nor taken by the boat ahead", Clubs.STATE, x -> x.crew(6, 12, 1));
        doc.answers("but seven and one more are enough", 40, x -> {
            x.sit(7, Clubs.COX, -1);
            return x.crew(6, 12, 1);
        });
    }

    private static void crewLeastSum() {
        doc.says("The least sum");
        doc.given(x -> {
            x.oar(Clubs.STROKE, 60);
            x.oar(Clubs.BOW, 60);
            x.oar(Clubs.SCULLER, 60);
            x.boat(Clubs.PAIR, 30, 150, 10);
            x.boat(Clubs.SINGLE, 30, 150, 10);
        });
        doc.answers("both on their own side", 10, x -> x.crew(0, 12, 1));
        doc.answers("bow", 1, x -> {
            x.crew(0, 12, 1);
            return x.seat(0, 0);
        });
        doc.answers("the sculler", 5, x -> x.crew(1, 12, 1));
        doc.answers("is the single's", 2, x -> {
            x.crew(1, 12, 1);
            return x.seat(1, 0);
        });
        doc.given(x -> {
            Clubs.oars(x, 8, Clubs.SCULLER, 60);
            x.boat(Clubs.EIGHT, 30, 150, 10);
        });
        doc.answers("the dearest eight", 56, x -> x.crew(0, 12, 1));
        doc.given(x -> {
            Clubs.oars(x, 4, Clubs.BOW, 60);
            x.boat(Clubs.QUAD, 30, 150, 10);
        });
        doc.answers("the dearest quad", 32, x -> x.crew(0, 12, 1));
    }

    private static void crewOfSeveral() {
        doc.says("of several the one in which OAR 0 has the least SEAT (none is behind all SEATS), then OAR 1, and so on.");
        doc.given(x -> {
            oars(x, 3);
            x.boat(Clubs.PAIR, 30, 150, 10);
            x.crew(0, 12, 1);
        });
        doc.answers("oar 0", 0, x -> x.about(0, 3));
        doc.answers("oar 1", 1, x -> x.about(1, 3));
        doc.answers("oar 2", Clubs.NONE, x -> x.about(2, 3));
        doc.given(x -> {
            oars(x, 3);
            x.boat(Clubs.PAIR, 30, 150, 10);
            x.sit(0, 0, 2);
            x.crew(0, 12, 1);
        });
        doc.answers("a seat, the greatest one, is ahead of none", 1, x -> x.about(0, 3));
        doc.answers("and oar 1 has none", Clubs.NONE, x -> x.about(1, 3));
        doc.given(x -> {
            oars(x, 16);
            x.boat(Clubs.EIGHT, 30, 150, 10);
            x.crew(0, 12, 1);
        });
        for (int o = 0; o < 16; o++) {
            int of = o;
            doc.answers("oar " + o + " of sixteen", o < 8 ? o : Clubs.NONE, x -> x.about(of, 3));
        }
    }

    private static void crewSitsNowhere() {
        doc.says("Those who do not sit in it any more sit nowhere.");
        doc.given(x -> {
            oars(x, 3);
            x.boat(Clubs.PAIR, 30, 150, 10);
            x.boat(Clubs.FOUR, 30, 150, 10);
            x.sit(0, 0, 0);
            x.sit(0, 1, 1);
            x.ill(0, 1);
            x.crew(0, 12, 1);
        });
        doc.answers("the ill one", Clubs.NONE, x -> x.about(0, 3));
        doc.answers("who stays", 1, x -> x.about(1, 3));
        doc.answers("who comes", 0, x -> x.about(2, 3));
        doc.given(x -> {
            oars(x, 5);
            x.boat(Clubs.FOUR, 30, 150, 10);
            x.sit(0, Clubs.COX, 4);
            x.ill(4, 1);
            x.crew(0, 12, 1);
        });
        doc.answers("the cox is not of the crew, and stays", 8, x -> x.about(4, 3));
    }
}
