/** The bounds of the document's section 3 and of promises 16 to 20: waters, THE TAPE, RULES and ASHORE. */
final class RiverBoundsTest {
    private static final Sentences doc = new Sentences();
    /** The longest RULE there is: 49 bytes. */
    private static final String LONGEST = "bar single if !stream=999&!stream=999&!stream=999";

    public static void main(String[] args) {
        waterDays();
        waterStreamAndWind();
        waterNoneAheadOfBad();
        waterRefusedStays();
        feedBytes();
        feedLowestBytes();
        tapeAtMost();
        ruleWithoutTests();
        ruleOfEachTest();
        ruleEndsTooEarly();
        ruleFirstWrongByte();
        ruleNoOtherBlanks();
        ruleDigits();
        ruleTests();
        ruleEveryByteAtEveryPlace();
        ruleEmptiesTheTape();
        ruleReadsNothingBehindTheEnd();
        rulesAtMost();
        askedIsTheGreatest();
        askedOfItsKind();
        testsAreSoOrNot();
        dayModuloThirty();
        monthModuloTwelve();
        sizeAndYoung();
        ice();
        ruledRefused();
        mayRefused();
        ashoreTheFirst();
        ashoreByMeanWeight();
        doc.end("RiverBoundsTest");
    }

    /** A club with the RULE, whose number is 0, on a DAY whose WATER is so. */
    private static Clubs.Past ruleOn(String rule, int day, int stream, int wind) {
        return x -> {
            x.boat(Clubs.SINGLE, 30, 150, 10);
            Check.readRule(x, rule);
            x.water(day % 30, stream, wind);
            x.day(day);
        };
    }

    private static void holds(String rule, int day, int stream, int wind, boolean so) {
        doc.given(ruleOn(rule, day, stream, wind));
        doc.answers("'" + rule + "' on day " + day + ", stream " + stream + ", wind " + wind,
            so ? 0 : Clubs.NONE, x -> x.ruled(0, 12));
    }

    // ---- promise 16

    private static void waterDays() {
        doc.says("WATER of a day d (0 .. 29)");
        doc.takes("day", 0, (x, d) -> x.water(d, 50, 5), 0, 1, 28, 29);
        doc.given(Clubs::busy);
        doc.refusesAll("day", Clubs.NONE, (x, d) -> x.water(d, 60, 5), -1, 30, 31, 41, 42, Clubs.LEAST, Clubs.MOST);
    }

    private static void waterStreamAndWind() {
        doc.says("stream (0 .. 200), wind (0 .. 12): 0.");
        doc.takes("stream", 0, (x, stream) -> x.water(12, stream, 5), 0, 1, 199, 200);
        doc.takes("wind", 0, (x, wind) -> x.water(12, 50, wind), 0, 1, 11, 12);
        doc.given(Clubs::busy);
        doc.refusesAll("stream", Clubs.BAD, (x, stream) -> x.water(12, stream, 5),
            -1, 201, 999, Clubs.LEAST, Clubs.MOST);
        doc.refusesAll("wind", Clubs.BAD, (x, wind) -> x.water(12, 50, wind), -1, 13, 200, Clubs.LEAST, Clubs.MOST);
        holds("let * if stream=0&wind=0", 12, 0, 0, true);
        holds("let * if stream=200&wind=12", 12, 200, 12, true);
    }

    private static void waterNoneAheadOfBad() {
        doc.says("stream (0 .. 200), wind (0 .. 12): 0. NONE; BAD.");
        doc.given(Clubs::busy);
        doc.refusesAll("no such day, and its stream is bad", Clubs.NONE, (x, d) -> x.water(d, 201, 5), -1, 30);
        doc.refusesAll("no such day, and its wind is bad", Clubs.NONE, (x, d) -> x.water(d, 50, 13), -1, 30);
    }

    private static void waterRefusedStays() {
        doc.says("They change nothing.");
        doc.given(x -> {
            Clubs.single(x);
            Check.readRule(x, "let * if stream=60&wind=5");
            x.water(0, 60, 5);
        });
        doc.answers("a bad wind leaves the stream", 0, x -> {
            x.water(0, 61, 13);
            return x.ruled(0, 12);
        });
        doc.answers("a bad stream leaves the wind", 0, x -> {
            x.water(0, 201, 6);
            return x.ruled(0, 12);
        });
        doc.answers("day 30 is not day 0", 0, x -> {
            x.water(30, 1, 1);
            return x.ruled(0, 12);
        });
    }

    // ---- promise 17

    private static void feedBytes() {
        doc.says("BAD: n not 1 .. 8");
        for (int n = 1; n <= 8; n++) {
            doc.takes("bytes", n, (x, many) -> x.feed(-1L, many), n);
        }
        doc.given(Clubs::busy);
        doc.refusesAll("bytes", Clubs.BAD, (x, n) -> x.feed(-1L, n), 0, 9, -1, -8, 64, Clubs.LEAST, Clubs.MOST);
        doc.given(Clubs::brimful);
        doc.refusesAll("bytes to a full tape", Clubs.BAD, (x, n) -> x.feed(-1L, n), 0, 9);
    }

    private static void feedLowestBytes() {
        doc.says("The n lowest bytes of w, the highest first, come behind THE TAPE's: how many it has.");
        long word = 0x6261_7220_6F74_2A5FL; // "bar ot*_"
        doc.answers("one byte", -10, x -> {
            x.feed(word, 1);
            return x.rule();
        });
        doc.answers("'bar ' is above 'ot*_' and not read", -10, x -> {
            x.feed(word, 4);
            return x.rule();
        });
        doc.answers("all eight: 'bar o'", -14, x -> {
            x.feed(word, 8);
            return x.rule();
        });
        doc.answers("the sign's bit is of no matter", 0, x -> {
            x.feed(0x8000_0000_6261_7220L, 4);
            x.feed(-256L + '*', 1);
            return x.rule();
        });
        doc.answers("a byte above 127 is none below", -13, x -> {
            x.feed(0x6261_72A0L, 4);
            return x.rule();
        });
        doc.answers("byte 0 is a byte", 2, x -> x.feed(0, 2));
        doc.answers("and no end", -15, x -> {
            Check.type(x, "bar *");
            x.feed(0, 1);
            return x.rule();
        });
    }

    private static void tapeAtMost() {
        doc.says("THE TAPE (bytes, 120 at most)");
        for (int length = 111; length <= 120; length++) {
            int there = length;
            doc.given(x -> {
                for (int i = 0; i < there / 8; i++) {
                    x.feed(-1L, 8);
                }
                for (int i = 0; i < there % 8; i++) {
                    x.feed(-1L, 1);
                }
            });
            doc.answers("how many", length, x -> x.count(8));
            for (int n = 1; n <= 8; n++) {
                int more = n;
                if (length + n <= 120) {
                    doc.answers(length + " and " + n, length + n, x -> x.feed(-1L, more));
                } else {
                    doc.refuses(length + " and " + n, Clubs.FULL, x -> x.feed(-1L, more));
                    doc.answers("nothing of them came", there, x -> {
                        x.feed(-1L, more);
                        return x.count(8);
                    });
                }
            }
        }
        doc.answers("a full tape, read, has room again", 8, x -> {
            x.rule();
            return x.feed(-1L, 8);
        });
        doc.given(x -> {
            Check.type(x, LONGEST);
            while (x.count(8) < 120) {
                x.feed('&', 1);
            }
        });
        doc.answers("120 bytes, the first 49 of them a rule", -10 - 49, x -> x.rule());
    }

    // ---- promise 18

    private static void fault(String text, int place) {
        doc.given(x -> Check.type(x, text));
        doc.answers("'" + text + "'", -10 - place, x -> x.rule());
        doc.answers("'" + text + "' leaves no rule", 0, x -> {
            x.rule();
            return x.count(3);
        });
        doc.answers("'" + text + "' leaves no byte", 0, x -> {
            x.rule();
            return x.count(8);
        });
    }

    private static void good(String text) {
        doc.given(x -> Check.type(x, text));
        doc.answers("'" + text + "'", 0, x -> x.rule());
        doc.answers("'" + text + "' is a rule", 1, x -> {
            x.rule();
            return x.count(3);
        });
        doc.answers("'" + text + "' leaves no byte", 0, x -> {
            x.rule();
            return x.count(8);
        });
    }

    private static void ruleWithoutTests() {
        doc.says("let or bar, a blank, a KIND (pair four eight single quad) or *");
        for (String verb : new String[] {"let ", "bar "}) {
            for (String kind : Clubs.KIND_NAMES) {
                good(verb + kind);
            }
            good(verb + "*");
        }
    }

    private static void ruleOfEachTest() {
        doc.says("TEST: perhaps !, FIELD (stream wind hour month size young ice), one of = < >, a number of 1 to 3 digits.");
        for (String field : new String[] {"stream", "wind", "hour", "month", "size", "young", "ice"}) {
            for (String sign : new String[] {"=", "<", ">"}) {
                good("let * if " + field + sign + "0");
                good("let * if !" + field + sign + "999");
            }
        }
    }

    private static void ruleEndsTooEarly() {
        doc.says("the end of THE TAPE, if it ends too early");
        fault("", 0);
        for (int end = 1; end < LONGEST.length(); end++) {
            String begun = LONGEST.substring(0, end);
            // the kind alone, and each number of 1, 2 or 3 digits, end in time
            boolean ends = begun.equals("bar single") || Character.isDigit(begun.charAt(end - 1));
            if (ends) {
                good(begun);
            } else {
                fault(begun, end);
            }
        }
        good(LONGEST);
        for (String kind : Clubs.KIND_NAMES) {
            for (int end = 1; end < kind.length(); end++) {
                fault("let " + kind.substring(0, end), 4 + end);
            }
        }
        for (String field : new String[] {"stream", "wind", "hour", "month", "size", "young", "ice"}) {
            for (int end = 1; end <= field.length(); end++) {
                fault("let * if " + field.substring(0, end), 9 + end);
            }
        }
    }

    private static void ruleFirstWrongByte() {
        doc.says("The FAULT is the place of the first byte with which none begins so");
        fault("x", 0);
        fault("Let *", 0);
        fault("bet *", 1);
        fault("lar *", 1);
        fault("lex *", 2);
        fault("let*", 3);
        fault("let x", 4);
        fault("let paix", 7);
        fault("let sinx", 7);
        fault("let quay", 7);
        fault("let *x", 5);
        fault("let pairs", 8);
        fault("let * of", 6);
        fault("let * in", 7);
        fault("let * ifs", 8);
        fault("let * if x", 9);
        fault("let * if !x", 10);
        fault("let * if !!ice=1", 10);
        fault("let * if strand=1", 12);
        fault("let * if sizing=1", 12);
        fault("let * if ice!1", 12);
        fault("let * if ice1", 12);
        fault("let * if ice=x", 13);
        fault("let * if ice==1", 13);
        fault("let * if ice=-1", 13);
        fault("let * if ice=1x", 14);
        fault("let * if ice=1,ice=1", 14);
        fault("let * if ice=1&x", 15);
        fault("let * if ice=1&&ice=1", 15);
    }

    private static void ruleNoOtherBlanks() {
        doc.says("No other blanks.");
        String text = "let four if hour=1&!ice=2";
        good(text);
        for (int at = 0; at <= text.length(); at++) {
            String widened = text.substring(0, at) + " " + text.substring(at);
            boolean begunByOwn = at < text.length() && text.charAt(at) == ' ';
            fault(widened, begunByOwn ? at + 1 : at);
        }
        fault("let four ", 9);
        fault("let four if ", 12);
        fault("let four\tif hour=1", 8);
    }

    private static void ruleDigits() {
        doc.says("a number of 1 to 3 digits");
        fault("let * if hour=", 14);
        for (String number : new String[] {"0", "7", "9", "00", "07", "99", "000", "007", "999"}) {
            good("let * if hour=" + number);
            good("let * if hour=" + number + "&ice=0");
        }
        for (String number : new String[] {"0000", "1000", "9999"}) {
            fault("let * if hour=" + number, 17);
        }
        fault("let * if hour=/", 14);
        fault("let * if hour=:", 14);
        fault("let * if hour=1/", 15);
        fault("let * if hour=1:", 15);
        holds("let * if hour=012", 0, 0, 0, true);
        holds("let * if hour=12", 0, 0, 0, true);
        holds("let * if hour<999", 0, 0, 0, true);
        holds("let * if hour>000", 0, 0, 0, true);
        holds("let * if hour=120", 0, 0, 0, false);
    }

    private static void ruleTests() {
        doc.says("TEST, or TEST&TEST, or three.");
        good("let *");
        good("let * if ice=0");
        good("let * if ice=0&ice=0");
        good("let * if ice=0&ice=0&ice=0");
        fault("let * if ice=0&ice=0&ice=0&ice=0", 26);
        fault("let * if ice=0&ice=0&ice=0&", 26);
        fault("let * if ice=0&ice=0&", 21);
        fault("let * if ice=0&", 15);
        fault("let * if &ice=0", 9);
        String[] rules = {"hour=12", "hour=12&hour>11", "hour=12&hour>11&hour<13"};
        for (String tests : rules) {
            holds("let * if " + tests, 0, 0, 0, true);
        }
        holds("let * if hour=11&hour>11&hour<13", 0, 0, 0, false);
        holds("let * if hour=12&hour>12&hour<13", 0, 0, 0, false);
        holds("let * if hour=12&hour>11&hour<12", 0, 0, 0, false);
    }

    /** Each byte there is, behind each beginning of some RULES. */
    private static void ruleEveryByteAtEveryPlace() {
        doc.says("The FAULT is the place of the first byte with which none begins so (the end of THE TAPE, "
            + "if it ends too early).");
        String[] texts = {LONGEST, "let eight if month<1&young>22&size=333", "bar quad if wind=1&!hour<2&ice>3", "let pair"};
        for (String text : texts) {
            for (int at = 0; at <= text.length(); at++) {
                for (int sign = 0; sign < 256; sign++) {
                    String spoilt = text.substring(0, at) + (char) sign;
                    int want = Grammar.isRule(spoilt) ? 0 : -10 - Grammar.faultOf(spoilt);
                    doc.due("'" + spoilt + "'", Check.readRule(new DawnEights(), spoilt), want);
                }
            }
        }
    }

    private static void ruleEmptiesTheTape() {
        doc.says("THE TAPE, which is empty then, is a RULE: its number; -10 less the FAULT (THE TAPE is empty then, too).");
        doc.answers("the next is read from its own beginning", 0, x -> {
            Check.readRule(x, "let * if hour=12");
            x.boat(Clubs.SINGLE, 30, 150, 10);
            Check.readRule(x, "bar four");
            return x.ruled(0, 12);
        });
        doc.answers("behind a fault too", 0, x -> {
            Check.readRule(x, "let * if hour=12&&&");
            return Check.readRule(x, "bar four");
        });
        doc.answers("an empty tape twice", -10, x -> {
            x.rule();
            return x.rule();
        });
        doc.answers("a faulty one makes no number", 1, x -> {
            Check.readRule(x, "let *");
            Check.readRule(x, "let * if hour=12&hour=12&");
            return Check.readRule(x, "bar four");
        });
        doc.answers("nor leaves tests behind", 0, x -> {
            x.boat(Clubs.SINGLE, 30, 150, 10);
            Check.readRule(x, "let * if hour=1&hour=2&");
            Check.readRule(x, "let *");
            return x.ruled(0, 12);
        });
    }

    /** What an earlier, longer text had behind the end of this one is not read: no word, no digit, no &. */
    private static void ruleReadsNothingBehindTheEnd() {
        doc.says("the end of THE TAPE, if it ends too early");
        for (int end = 0; end < LONGEST.length(); end++) {
            String begun = LONGEST.substring(0, end);
            doc.given(x -> {
                Check.readRule(x, LONGEST);
                Check.type(x, begun);
            });
            boolean ends = Grammar.isRule(begun);
            doc.answers("'" + begun + "' behind the whole", ends ? 1 : -10 - end, x -> x.rule());
        }
        doc.given(x -> {
            x.boat(Clubs.SINGLE, 30, 150, 10);
            Check.readRule(x, "bar * if hour=123");
            Check.readRule(x, "let * if hour=1");
        });
        doc.answers("the number ends with the tape", 1, x -> x.ruled(0, 1));
        doc.answers("and is no longer one", Clubs.NONE, x -> x.ruled(0, 12));
    }

    private static void rulesAtMost() {
        doc.says("RULES are numbered from 0 on, 10 at most");
        for (int many = 0; many < 10; many++) {
            int there = many;
            doc.given(x -> rules(x, there));
            doc.answers("the number behind " + many, many, x -> Check.readRule(x, "bar *"));
            doc.answers("a fault behind " + many, -12, x -> Check.readRule(x, "bad"));
        }
        for (String text : new String[] {"", "b", "bad", "bar *", "bar * if hour=12"}) {
            doc.given(x -> {
                rules(x, 10);
                Check.type(x, text);
            });
            doc.refuses("'" + text + "' behind ten", Clubs.FULL, x -> x.rule());
            doc.answers("'" + text + "' stays on the tape", text.length(), x -> {
                x.rule();
                return x.count(8);
            });
            doc.answers("still ten", 10, x -> {
                x.rule();
                return x.count(3);
            });
            doc.answers("none more is asked", Clubs.NONE, x -> {
                x.boat(Clubs.SINGLE, 30, 150, 10);
                x.rule();
                return x.ruled(0, 12);
            });
        }
        doc.given(Clubs::brimful).refuses("a full tape behind ten", Clubs.FULL, x -> x.rule());
        doc.answers("it is full still", Clubs.FULL, x -> {
            x.rule();
            return x.feed(0, 1);
        });
    }

    private static void rules(DawnEights x, int many) {
        for (int i = 0; i < many; i++) {
            Check.readRule(x, "let pair");
        }
    }

    // ---- promise 19

    private static void askedIsTheGreatest() {
        doc.says("ASKED is the one of the greatest number that HOLDS");
        doc.given(x -> {
            x.boat(Clubs.SINGLE, 30, 150, 10);
            for (int i = 0; i < 10; i++) {
                Check.readRule(x, "let * if hour>" + 2 * i);
            }
        });
        for (int hour = 0; hour < 24; hour++) {
            int want = hour == 0 ? Clubs.NONE : Math.min(9, (hour - 1) / 2);
            doc.takes("hour", want, (x, at) -> x.ruled(0, at), hour);
        }
    }

    private static void askedOfItsKind() {
        doc.says("its KIND is the BOAT's, or *");
        for (int kind = 0; kind < 5; kind++) {
            String name = Clubs.KIND_NAMES[kind];
            doc.given(x -> {
                for (int other = 0; other < 5; other++) {
                    x.boat(other, 30, 150, 10);
                }
                Check.readRule(x, "bar " + name);
            });
            for (int b = 0; b < 5; b++) {
                doc.takes(name + "'s rule for boat", b == kind ? 0 : Clubs.NONE, (x, of) -> x.ruled(of, 12), b);
            }
            doc.takes("*'s rule for boat", 1, (x, of) -> {
                Check.readRule(x, "let *");
                return x.ruled(of, 12);
            }, 0, 1, 2, 3, 4);
        }
    }

    private static void testsAreSoOrNot() {
        doc.says("its TESTS are so (with !: are not so)");
        int[] values = {100, 7, 12, 3, 1, 0, 0};
        String[] fields = {"stream", "wind", "hour", "month", "size", "young", "ice"};
        for (int f = 0; f < fields.length; f++) {
            for (int number = Math.max(0, values[f] - 1); number <= values[f] + 1; number++) {
                boolean[] so = {values[f] == number, values[f] < number, values[f] > number};
                for (int sign = 0; sign < 3; sign++) {
                    String test = fields[f] + "=<>".charAt(sign) + number;
                    holds("let * if " + test, 100, 100, 7, so[sign]);
                    holds("let * if !" + test, 100, 100, 7, !so[sign]);
                }
            }
        }
    }

    private static void dayModuloThirty() {
        doc.says("stream, wind: of the WATER of DAY modulo 30");
        int[] days = {0, 1, 29, 30, 31, 59, 60, 989, 990, 998, 999};
        int[] of = {0, 1, 29, 0, 1, 29, 0, 29, 0, 8, 9};
        for (int i = 0; i < days.length; i++) {
            int day = days[i];
            int water = of[i];
            doc.given(x -> {
                x.boat(Clubs.SINGLE, 30, 150, 10);
                Check.readRule(x, "let * if stream=150&wind=11");
                x.water(water, 150, 11);
                x.day(day);
            });
            doc.answers("day " + day, 0, x -> x.ruled(0, 12));
            doc.answers("day " + day + ", another one's water is laid anew", 0, x -> {
                x.water((water + 1) % 30, 3, 3);
                x.water((water + 29) % 30, 3, 3);
                return x.ruled(0, 12);
            });
            doc.answers("day " + day + ", its own water is laid anew", Clubs.NONE, x -> {
                x.water(water, 150, 10);
                return x.ruled(0, 12);
            });
        }
    }

    private static void monthModuloTwelve() {
        doc.says("month: (DAY / 30) modulo 12");
        int[] days = {0, 29, 30, 59, 60, 329, 330, 359, 360, 389, 390, 719, 720, 959, 960, 999};
        int[] months = {0, 0, 1, 1, 2, 10, 11, 11, 0, 0, 1, 11, 0, 7, 8, 9};
        for (int i = 0; i < days.length; i++) {
            holds("let * if month=" + months[i], days[i], 0, 0, true);
        }
        holds("let * if month>11", 359, 0, 0, false);
        holds("let * if month=12", 360, 0, 0, false);
    }

    private static void sizeAndYoung() {
        doc.says("size: SEATS; young: 1 if somebody YOUNG sits in it, else 0");
        for (int kind = 0; kind < 5; kind++) {
            int of = kind;
            doc.given(x -> {
                x.oar(Clubs.YOUNG, 60);
                x.oar(Clubs.BOTH, 60);
                x.boat(of, 30, 150, 10);
                x.boat(Clubs.EIGHT, 30, 150, 10);
                Check.readRule(x, "let * if size=" + Clubs.SEATS[of]);
                Check.readRule(x, "let * if size=" + Clubs.SEATS[of] + "&young=1");
            });
            doc.answers(Clubs.KIND_NAMES[kind] + ", nobody in it", 0, x -> x.ruled(0, 12));
            doc.answers(Clubs.KIND_NAMES[kind] + ", one not young on its last seat", 0, x -> {
                x.sit(0, Clubs.SEATS[of] - 1, 1);
                return x.ruled(0, 12);
            });
            doc.answers(Clubs.KIND_NAMES[kind] + ", a young one on its last seat", 1, x -> {
                x.sit(0, Clubs.SEATS[of] - 1, 0);
                return x.ruled(0, 12);
            });
            doc.answers(Clubs.KIND_NAMES[kind] + ", a young one in another boat", 0, x -> {
                x.sit(1, 0, 0);
                return x.ruled(0, 12);
            });
        }
        doc.answers("a young one gone", 0, x -> {
            x.sit(0, 0, 0);
            x.sit(0, 0, -1);
            return x.ruled(0, 12);
        });
    }

    private static void ice() {
        doc.says("ice: 1 if month is below 2 and stream below 10, else 0.");
        int[] days = {0, 29, 30, 59, 60, 359, 360, 419, 420};
        boolean[] cold = {true, true, true, true, false, false, true, true, false};
        for (int i = 0; i < days.length; i++) {
            holds("let * if ice=1", days[i], 9, 0, cold[i]);
            holds("let * if ice=1", days[i], 0, 12, cold[i]);
            holds("let * if ice=1", days[i], 10, 0, false);
            holds("let * if ice=0", days[i], 9, 0, !cold[i]);
            holds("let * if ice=0", days[i], 10, 0, true);
        }
    }

    private static void ruledRefused() {
        doc.says("The RULE that is ASKED. NONE: none, too; BAD: hour.");
        doc.given(Clubs::busy);
        doc.refusesAll("boat", Clubs.NONE, (x, b) -> x.ruled(b, 12), -1, 5, 8, Clubs.LEAST, Clubs.MOST);
        doc.refusesAll("boat, and the hour is none", Clubs.NONE, (x, b) -> x.ruled(b, 24), -1, 5);
        doc.refusesAll("hour", Clubs.BAD, (x, hour) -> x.ruled(1, hour), -1, 24, Clubs.LEAST, Clubs.MOST);
        doc.takes("hour", 1, (x, hour) -> x.ruled(1, hour), 0, 23);
        doc.takes("none holds", Clubs.NONE, (x, b) -> x.ruled(b, 12), 0, 4);
        doc.takes("no rule at all", Clubs.NONE, (x, hour) -> {
            DawnEights other = new DawnEights();
            other.boat(Clubs.SINGLE, 30, 150, 10);
            return other.ruled(0, hour);
        }, 0, 23);
    }

    // ---- promise 20

    private static void mayRefused() {
        doc.says("ASHORE: 0 .. 5. NONE; BAD: hour.");
        doc.given(Clubs::busy);
        doc.refusesAll("boat", Clubs.NONE, (x, b) -> x.may(b, 12), -1, 5, 8, Clubs.LEAST, Clubs.MOST);
        doc.refusesAll("boat, and the hour is none", Clubs.NONE, (x, b) -> x.may(b, 24), -1, 5);
        doc.refusesAll("hour", Clubs.BAD, (x, hour) -> x.may(0, hour), -1, 24, Clubs.LEAST, Clubs.MOST);
        doc.refusesAll("hour of a broken one", Clubs.BAD, (x, hour) -> x.may(2, hour), -1, 24);
        doc.takes("hour", 0, (x, hour) -> x.may(0, hour), 0, 23);
    }

    /** Each set of the five reasons: the first of them is told, and out() is refused unless there is none. */
    private static void ashoreTheFirst() {
        doc.says("ASHORE is a BOAT's crew at an hour, the first that is so: 1 the BOAT is BROKEN; 2 a SEAT, or the "
            + "COX's, is empty; 3 the mean weight of SEATS (not the COX), cut, is below its least, above its greatest; "
            + "4 somebody in it may not be out then; 5 the RULE that is ASKED bars it; 0 it may go.");
        for (int kind = 0; kind < 5; kind++) {
            for (int reasons = 0; reasons < 32; reasons++) {
                int[] made = {kind, reasons};
                int first = reasons == 0 ? 0 : Integer.numberOfTrailingZeros(reasons) + 1;
                doc.given(x -> ashore(x, made[0], made[1]));
                doc.answers(Clubs.KIND_NAMES[kind] + ", reasons " + reasons, first, x -> x.may(0, 12));
                if (reasons == 0) {
                    doc.answers(Clubs.KIND_NAMES[kind] + " goes", 0, x -> x.out(0, 12));
                } else {
                    doc.refuses(Clubs.KIND_NAMES[kind] + ", out, reasons " + reasons, Clubs.STATE, x -> x.out(0, 12));
                }
            }
        }
        doc.given(x -> ashore(x, Clubs.FOUR, 0));
        doc.answers("an empty cox's seat", 2, x -> {
            x.sit(0, Clubs.COX, -1);
            return x.may(0, 12);
        });
        doc.answers("an ill cox", 4, x -> {
            x.ill(8, 1);
            return x.may(0, 12);
        });
        doc.given(RiverBoundsTest::lastOfEightFours);
        doc.answers("the eighth boat goes", 0, x -> x.may(7, 12));
        doc.answers("one too light in the eighth boat", 3, x -> {
            x.sit(7, 0, -1);
            x.sit(7, 0, 5);
            return x.may(7, 12);
        });
        doc.answers("the eighth boat has no cox", 2, x -> {
            x.sit(7, Clubs.COX, -1);
            return x.may(7, 12);
        });
        doc.given(x -> ashore(x, Clubs.FOUR, 0));
        doc.answers("a let behind a bar", 0, x -> {
            Check.readRule(x, "bar *");
            Check.readRule(x, "let *");
            return x.may(0, 12);
        });
        doc.answers("a bar behind a let", 5, x -> {
            Check.readRule(x, "let *");
            Check.readRule(x, "bar *");
            return x.may(0, 12);
        });
        doc.answers("a bar that does not hold", 0, x -> {
            Check.readRule(x, "bar * if hour=11");
            return x.may(0, 12);
        });
    }

    /** Eight fours; OARS 0 to 3 in the last one, of 60 as it wants, 4 of 40 its COX, and 5 of 59, too light by 1. */
    private static void lastOfEightFours(DawnEights x) {
        Clubs.boats(x, 7, Clubs.FOUR);
        x.boat(Clubs.FOUR, 60, 60, 10);
        Clubs.oars(x, 4, Clubs.BOTH, 60);
        x.oar(Clubs.BOTH, 40);
        x.oar(Clubs.BOTH, 59);
        for (int s = 0; s < 4; s++) {
            x.sit(7, s, s);
        }
        x.sit(7, Clubs.COX, 4);
    }

    private static void ashore(DawnEights x, int kind, int reasons) {
        Clubs.oars(x, 9, Clubs.BOTH, 60);
        boolean light = (reasons & 4) != 0;
        x.boat(kind, light ? 61 : 60, light ? 70 : 60, 10);
        x.crew(0, 12, 1);
        x.sit(0, Clubs.COX, 8);
        if ((reasons & 1) != 0) {
            x.look(0, 0);
        }
        if ((reasons & 8) != 0) {
            // the last one, so that in a bigger boat somebody ill sits in it though a SEAT is empty
            x.ill(Clubs.SEATS[kind] - 1, 1);
        }
        if ((reasons & 2) != 0) {
            x.sit(0, 0, -1);
        }
        if ((reasons & 16) != 0) {
            Check.readRule(x, "bar *");
        }
    }

    /** A crew whose weights are 80 each, and so much more together. */
    private static void ashoreByMeanWeight() {
        doc.says("3 the mean weight of SEATS (not the COX), cut, is below its least, above its greatest");
        for (int kind = 0; kind < 5; kind++) {
            int seats = Clubs.SEATS[kind];
            for (int more = -seats - 1; more <= 2 * seats; more++) {
                int mean = Math.floorDiv(80 * seats + more, seats);
                int[] made = {kind, more};
                doc.given(x -> weighed(x, made[0], made[1], 80, 80));
                doc.answers(Clubs.KIND_NAMES[kind] + ", " + more + " more", mean == 80 ? 0 : 3, x -> x.may(0, 12));
                doc.given(x -> weighed(x, made[0], made[1], 30, 80));
                doc.answers(Clubs.KIND_NAMES[kind] + ", up to 80, " + more + " more", mean <= 80 ? 0 : 3, x -> x.may(0, 12));
                doc.given(x -> weighed(x, made[0], made[1], 80, 150));
                doc.answers(Clubs.KIND_NAMES[kind] + ", from 80, " + more + " more", mean >= 80 ? 0 : 3, x -> x.may(0, 12));
            }
        }
    }

    private static void weighed(DawnEights x, int kind, int more, int least, int most) {
        int seats = Clubs.SEATS[kind];
        x.boat(kind, least, most, 10);
        for (int s = 0; s < seats; s++) {
            x.oar(Clubs.BOTH, s == 0 ? 80 + more : 80);
            x.sit(0, s, s);
        }
        x.oar(Clubs.BOTH, 30);
        x.sit(0, Clubs.COX, seats);
    }
}
