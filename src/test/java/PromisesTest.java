/** Each promise of the document by itself: ordinary inputs, the edges that it names, and wrong inputs. */
final class PromisesTest {
    private static final int BOW = 0, STROKE = 1, BOTH = 2, SCULLER = 3, YOUNG = 4;
    private static final int PAIR = 0, FOUR = 1, EIGHT = 2, SINGLE = 3, QUAD = 4;
    private static final int COX = 8;
    private static final int NONE = -1, BAD = -2, STATE = -3, FULL = -4;
    private static final int LEAST = Integer.MIN_VALUE, MOST = Integer.MAX_VALUE;

    private static final Check check = new Check();
    private static DawnEights x;
    private static int promise;

    public static void main(String[] args) {
        begin(1); aNewObject();
        begin(2); oar();
        begin(3); boat();
        begin(4); ill();
        begin(5); sit();
        begin(6); seat();
        begin(7); about();
        begin(8); race();
        begin(9); unrace();
        begin(10); group();
        begin(11); strength();
        begin(12); between();
        begin(13); misfit();
        begin(14); sure();
        begin(15); crewCosts();
        begin(15); crewSits();
        begin(15); crewRefusals();
        begin(16); water();
        begin(17); feed();
        begin(18); ruleReads();
        begin(18); ruleFaults();
        begin(18); ruleFull();
        begin(18); ruleFaultNearFull();
        begin(19); ruledByKind();
        begin(19); ruledByField();
        begin(20); mayInOrder();
        begin(20); mayByWeight();
        begin(21); day();
        begin(22); out();
        begin(23); look();
        begin(24); broke();
        begin(25); outing();
        begin(26); heat();
        begin(27); near();
        begin(28); clashes();
        begin(29); shift();
        begin(30); trailer();
        begin(31); rack();
        begin(32); count();
        check.end("PromisesTest");
    }

    private static void begin(int number) {
        promise = number;
        x = new DawnEights();
    }

    private static void due(String call, long got, long want) {
        check.due("promise " + promise + ": " + call, got, want);
    }

    /** A club of so many OARS of a KIND and a weight. */
    private static void oars(int many, int kind, int weight) {
        for (int i = 0; i < many; i++) {
            x.oar(kind, weight);
        }
    }

    private static void aNewObject() {
        for (int what = 0; what <= 8; what++) {
            due("count " + what, x.count(what), 0);
        }
        due("seat", x.seat(0, 0), NONE);
        due("about", x.about(0, 0), NONE);
        due("clashes", x.clashes(), 0);
        due("rack", x.rack(0), NONE);
        due("day", x.day(0), 0);
        due("near", x.near(30), 30);
        x.boat(SINGLE, 30, 150, 1);
        due("stream 0, wind 0", Check.readRule(x, "bar * if stream=0&wind=0"), 0);
        for (int d = 0; d < 30; d++) {
            x.day(d);
            due("water of " + d, x.ruled(0, 0), 0);
        }
        DawnEights other = new DawnEights();
        due("another object's boats", other.count(1), 0);
    }

    private static void oar() {
        due("kind -1", x.oar(-1, 50), BAD);
        due("kind 5", x.oar(5, 50), BAD);
        due("weight 29", x.oar(BOW, 29), BAD);
        due("weight 151", x.oar(BOW, 151), BAD);
        due("wild", x.oar(LEAST, MOST), BAD);
        for (int i = 0; i < 16; i++) {
            due("oar " + i, x.oar(i % 5, i % 2 == 0 ? 30 : 150), i);
        }
        due("the 17th", x.oar(YOUNG, 150), FULL);
        due("BAD is told ahead of FULL", x.oar(5, 150), BAD);
        due("how many", x.count(0), 16);
        due("the last one's kind", x.about(15, 0), 0);
        due("the last one's weight", x.about(15, 1), 150);
    }

    private static void boat() {
        due("kind -1", x.boat(-1, 50, 60, 1), BAD);
        due("kind 5", x.boat(5, 50, 60, 1), BAD);
        due("least 29", x.boat(PAIR, 29, 60, 1), BAD);
        due("greatest 151", x.boat(PAIR, 50, 151, 1), BAD);
        due("least above greatest", x.boat(PAIR, 61, 60, 1), BAD);
        due("least 151", x.boat(PAIR, 151, 151, 1), BAD);
        due("greatest 29", x.boat(PAIR, 29, 29, 1), BAD);
        due("length 0", x.boat(PAIR, 50, 60, 0), BAD);
        due("length 100", x.boat(PAIR, 50, 60, 100), BAD);
        due("wild", x.boat(LEAST, LEAST, MOST, MOST), BAD);
        for (int b = 0; b < 8; b++) {
            due("boat " + b, x.boat(b % 5, 30 + 15 * b, 30 + 15 * b, b == 0 ? 1 : 99), b);
        }
        due("the ninth", x.boat(PAIR, 30, 150, 1), FULL);
        due("BAD is told ahead of FULL", x.boat(PAIR, 30, 150, 100), BAD);
        due("how many", x.count(1), 8);
    }

    private static void ill() {
        oars(2, BOW, 60);
        due("ill", x.ill(0, 1), 0);
        due("still", x.ill(0, 1), 1);
        due("it is", x.about(0, 2), 1);
        due("the other is not", x.about(1, 2), 0);
        due("well", x.ill(0, 0), 1);
        due("was well", x.ill(0, 0), 0);
        due("no such oar", x.ill(2, 0), NONE);
        due("no such oar -1", x.ill(-1, 0), NONE);
        due("NONE is told ahead of BAD", x.ill(2, 7), NONE);
        due("is 2", x.ill(0, 2), BAD);
        due("is -1", x.ill(0, -1), BAD);
        x.boat(SINGLE, 30, 150, 1);
        x.sit(0, 0, 0);
        x.ill(0, 1);
        due("keeps its seat", x.seat(0, 0), 0);
    }

    private static void sit() {
        oars(2, BOTH, 70);
        x.oar(BOTH, 71);
        x.boat(FOUR, 30, 150, 1);
        x.boat(PAIR, 30, 150, 1);
        due("an empty seat", x.sit(0, 3, 0), NONE);
        due("one that is taken", x.sit(0, 3, 1), 0);
        due("who was there sits nowhere", x.about(0, 3), NONE);
        due("its own seat", x.sit(0, 3, 1), 1);
        due("still there", x.seat(0, 3), 1);
        due("another boat", x.sit(1, 1, 1), NONE);
        due("one seat of all", x.seat(0, 3), NONE);
        due("there now", x.seat(1, 1), 1);
        due("nobody", x.sit(1, 1, -1), 1);
        due("empty", x.seat(1, 1), NONE);
        due("nobody again", x.sit(1, 1, -1), NONE);
        due("cox of 70", x.sit(0, COX, 1), NONE);
        due("cox of 71", x.sit(0, COX, 2), STATE);
        due("the cox stays", x.seat(0, COX), 1);
        due("71 in a seat", x.sit(0, 0, 2), NONE);
        due("cox takes a seat", x.sit(0, 0, 1), 2);
        due("no cox now", x.seat(0, COX), NONE);
        x.ill(0, 1);
        due("ill", x.sit(0, 0, 0), STATE);
        due("ill changes nothing", x.seat(0, 0), 1);
        due("ill, and on no such seat", x.sit(0, 4, 0), -5);
        due("seat 4 of a four", x.sit(0, 4, 1), -5);
        due("seat -1", x.sit(0, -1, 1), -5);
        due("seat 9", x.sit(0, 9, 1), -5);
        due("boat -1", x.sit(-1, 0, 1), -5);
        due("boat 2", x.sit(2, 0, 1), -5);
        due("oar 3", x.sit(0, 0, 3), -5);
        due("oar -2", x.sit(0, 0, -2), -5);
        due("nobody on no such seat", x.sit(1, 2, -1), -5);
        due("cox of a pair", x.sit(1, COX, 1), -5);
        due("wild", x.sit(MOST, LEAST, MOST), -5);
        sitOnEachKind();
    }

    private static void sitOnEachKind() {
        int[] seats = {2, 4, 8, 1, 4};
        for (int kind = 0; kind < 5; kind++) {
            x = new DawnEights();
            x.oar(BOTH, 60);
            x.boat(kind, 30, 150, 1);
            for (int s = 0; s < 8; s++) {
                due("kind " + kind + " seat " + s, x.sit(0, s, 0), s == 0 ? NONE : s < seats[kind] ? NONE : -5);
            }
            due("kind " + kind + " cox", x.sit(0, COX, 0), kind == FOUR || kind == EIGHT ? NONE : -5);
            due("kind " + kind + " 9", x.sit(0, 9, 0), -5);
        }
    }

    private static void seat() {
        x.oar(BOW, 60);
        x.oar(BOW, 60);
        x.boat(EIGHT, 30, 150, 1);
        x.sit(0, 7, 1);
        x.sit(0, COX, 0);
        due("seat 7", x.seat(0, 7), 1);
        due("cox", x.seat(0, COX), 0);
        due("nobody", x.seat(0, 6), NONE);
        due("seat 9", x.seat(0, 9), NONE);
        due("seat -1", x.seat(0, -1), NONE);
        due("boat 1", x.seat(1, 0), NONE);
        due("boat -1", x.seat(-1, 10 + 7), NONE);
        due("seat 17 is not boat 1's", x.seat(0, 17), NONE);
        due("wild", x.seat(LEAST, MOST), NONE);
    }

    private static void about() {
        x.oar(SCULLER, 93);
        x.boat(SINGLE, 30, 150, 1);
        x.boat(FOUR, 30, 150, 1);
        due("kind", x.about(0, 0), SCULLER);
        due("weight", x.about(0, 1), 93);
        due("ill", x.about(0, 2), 0);
        due("nowhere", x.about(0, 3), NONE);
        x.sit(0, 0, 0);
        due("boat 0 seat 0", x.about(0, 3), 0);
        x.sit(1, 3, 0);
        due("boat 1 seat 3", x.about(0, 3), 13);
        due("what 4", x.about(0, 4), NONE);
        due("what -1", x.about(0, -1), NONE);
        due("oar 1", x.about(1, 0), NONE);
        due("oar -1", x.about(-1, 0), NONE);
        due("wild", x.about(MOST, LEAST), NONE);
    }

    private static void race() {
        oars(3, BOW, 60);
        due("first", x.race(0, 1, 999), 1);
        due("second", x.race(1, 2, -999), 2);
        due("by 0", x.race(2, 0, 0), 3);
        due("by 1000", x.race(0, 1, 1000), BAD);
        due("by -1000", x.race(0, 1, -1000), BAD);
        due("x is y", x.race(1, 1, 5), BAD);
        due("no x", x.race(3, 0, 5), NONE);
        due("no y", x.race(0, -1, 5), NONE);
        due("NONE is told ahead of BAD", x.race(3, 3, 1000), NONE);
        due("wild", x.race(LEAST, MOST, LEAST), NONE);
        due("how many", x.count(2), 3);
        for (int i = 4; i <= 40; i++) {
            due("race " + i, x.race(0, 1, i), i);
        }
        due("the 41st", x.race(0, 1, 1), FULL);
        due("BAD is told ahead of FULL", x.race(0, 0, 1), BAD);
        due("still 40", x.count(2), 40);
    }

    private static void unrace() {
        oars(3, BOW, 60);
        due("none", x.unrace(), STATE);
        x.race(0, 1, 5);
        x.race(1, 2, 5);
        due("the latest", x.unrace(), 1);
        due("it hangs no more", x.group(2), 2);
        due("the other does", x.group(1), 0);
        due("and the first", x.unrace(), 0);
        due("none again", x.unrace(), STATE);
        due("another one", x.race(0, 2, 5), 1);
        due("it is new", x.strength(2, 0), -5);
        due("the old one is gone", x.group(1), 1);
    }

    private static void group() {
        oars(16, BOW, 60);
        due("alone", x.group(9), 9);
        x.race(15, 14, 0);
        x.race(12, 13, 0);
        due("two", x.group(15), 14);
        due("two others", x.group(13), 12);
        x.race(13, 14, 0);
        due("four", x.group(15), 12);
        for (int o = 0; o < 12; o++) {
            x.race(o + 1, o, 1);
        }
        due("a long chain", x.group(15), 0);
        due("its middle", x.group(7), 0);
        due("no oar 16", x.group(16), NONE);
        due("no oar -1", x.group(-1), NONE);
        due("wild", x.group(LEAST), NONE);
    }

    private static void fraction(String call, long above, long below, long wantAbove, long wantBelow) {
        due(call + " above", above, wantAbove);
        due(call + " below", below, wantBelow);
    }

    private static void strengthIs(int o, long above, long below) {
        fraction("strength " + o, x.strength(o, 0), x.strength(o, 1), above, below);
    }

    private static void strength() {
        oars(9, BOW, 60);
        strengthIs(3, 0, 1);
        x.race(2, 1, 5);
        strengthIs(1, 0, 1);
        strengthIs(2, 5, 1);
        x.race(1, 2, -8);
        strengthIs(2, 13, 2);
        x.race(3, 2, 1);
        strengthIs(3, 15, 2);
        x.race(3, 1, 0);
        // s2 - s1 twice, s3 - s2, s3 - s1: 3 s2 - s3 = 12, 2 s3 - s2 = 1
        strengthIs(2, 5, 1);
        strengthIs(3, 3, 1);
        x.race(3, 1, 1);
        // then 3 s2 - s3 = 12, 3 s3 - s2 = 2
        strengthIs(2, 19, 4);
        strengthIs(3, 9, 4);
        due("what 2", x.strength(1, 2), DawnEights.NO);
        due("what -1", x.strength(1, -1), DawnEights.NO);
        due("no oar", x.strength(9, 0), DawnEights.NO);
        due("no oar -1", x.strength(-1, 1), DawnEights.NO);
        sevenAndEight();
    }

    private static void sevenAndEight() {
        x = new DawnEights();
        oars(9, BOW, 60);
        for (int o = 0; o < 6; o++) {
            x.race(o, o + 1, 999);
        }
        strengthIs(6, -6 * 999, 1);
        x.race(7, 8, 4);
        due("seven", x.strength(0, 1), 1);
        x.race(6, 7, 1);
        due("nine", x.strength(0, 0), DawnEights.NO);
        due("nine, below", x.strength(8, 1), DawnEights.NO);
        x.unrace();
        x.unrace();
        x.race(6, 8, 1);
        due("eight", x.strength(0, 0), DawnEights.NO);
        strengthIs(7, 0, 1);
    }

    private static void between() {
        oars(10, BOW, 60);
        x.race(4, 5, 7);
        x.race(5, 4, 2);
        fraction("5/2", x.between(4, 5, 0), x.between(4, 5, 1), 5, 2);
        fraction("-5/2", x.between(5, 4, 0), x.between(5, 4, 1), -5, 2);
        fraction("itself", x.between(5, 5, 0), x.between(5, 5, 1), 0, 1);
        fraction("itself alone", x.between(0, 0, 0), x.between(0, 0, 1), 0, 1);
        x.race(6, 5, 10);
        fraction("not of the least", x.between(6, 5, 0), x.between(6, 5, 1), 10, 1);
        due("two groups", x.between(4, 0, 0), DawnEights.NO);
        due("what 2", x.between(4, 5, 2), DawnEights.NO);
        due("what -1", x.between(4, 5, -1), DawnEights.NO);
        due("no x", x.between(10, 5, 0), DawnEights.NO);
        due("no y", x.between(5, -1, 0), DawnEights.NO);
        for (int o = 0; o < 4; o++) {
            x.race(o, o + 1, 1);
        }
        due("seven", x.between(0, 4, 0), 4);
        x.race(9, 0, 0);
        due("eight", x.between(0, 4, 0), DawnEights.NO);
        due("itself in eight", x.between(0, 0, 1), DawnEights.NO);
    }

    private static void misfit() {
        oars(9, BOW, 60);
        fraction("alone", x.misfit(8, 0), x.misfit(8, 1), 0, 1);
        x.race(1, 2, 6);
        x.race(1, 3, 12);
        fraction("a chain fits", x.misfit(3, 0), x.misfit(3, 1), 0, 1);
        x.race(2, 3, 1);
        // the ring is 5 too short: 5/3 of each RACE
        fraction("a ring", x.misfit(2, 0), x.misfit(2, 1), 5, 1);
        x.race(2, 3, 2);
        // 3 s2 - 2 s3 = -3, 3 s3 - 2 s2 = -15: 9/5, 9/5, 7/5 and 2/5 are left
        fraction("a ring of four", x.misfit(1, 0), x.misfit(1, 1), 27, 5);
        x.race(4, 5, 3);
        x.race(4, 5, 4);
        x.race(4, 5, 4);
        fraction("another group", x.misfit(4, 0), x.misfit(4, 1), 4, 3);
        due("what 2", x.misfit(4, 2), DawnEights.NO);
        due("no oar", x.misfit(9, 0), DawnEights.NO);
        due("no oar -1", x.misfit(-1, 0), DawnEights.NO);
        for (int o = 5; o < 8; o++) {
            x.race(o, o + 1, 1);
        }
        due("five", x.misfit(8, 1), 3);
        x.race(3, 4, 1);
        due("eight", x.misfit(8, 0), DawnEights.NO);
    }

    private static void sure() {
        oars(3, BOW, 60);
        due("no race", x.sure(0, 1), 0);
        x.race(0, 1, 0);
        due("by 0 tells nothing", x.sure(0, 1), 0);
        x.race(0, 1, 3);
        due("x", x.sure(0, 1), 1);
        due("y", x.sure(1, 0), 2);
        x.race(1, 0, -2);
        due("likewise", x.sure(0, 1), 1);
        x.race(1, 0, 0);
        due("0 is not the contrary", x.sure(1, 0), 2);
        x.race(1, 2, 9);
        due("only of both", x.sure(0, 2), 0);
        x.race(0, 1, -1);
        due("the contrary", x.sure(0, 1), 0);
        due("the contrary, told the other way", x.sure(1, 0), 0);
        due("x is y", x.sure(2, 2), BAD);
        due("no x", x.sure(3, 0), NONE);
        due("no y", x.sure(0, -1), NONE);
        due("NONE is told ahead of BAD", x.sure(3, 3), NONE);
    }

    /** What one OAR of each KIND costs on each side: called to the only seat that is left. */
    private static void crewCosts() {
        int[] wantBow = {0, 2, 0, 2, 0};
        int[] wantStroke = {2, 0, 0, 2, 0};
        int[] wantSculls = {3, 3, 1, 0, 1};
        for (int kind = 0; kind < 5; kind++) {
            x = new DawnEights();
            x.oar(kind, 60);
            x.boat(SINGLE, 30, 150, 1);
            due("kind " + kind + " sculls", x.crew(0, 12, 0), 5 + wantSculls[kind]);
            x.sit(0, 0, 0);
            due("kind " + kind + " has it", x.crew(0, 12, 0), wantSculls[kind]);
            x = new DawnEights();
            x.oar(kind, 60);
            x.oar(kind, 60);
            x.boat(PAIR, 30, 150, 1);
            due("kind " + kind + " pair", x.crew(0, 12, 0), 10 + wantBow[kind] + wantStroke[kind]);
            x.boat(QUAD, 30, 150, 1);
            oars(2, SCULLER, 60);
            due("kind " + kind + " quad", x.crew(1, 12, 0), 20 + 2 * wantSculls[kind]);
        }
        x = new DawnEights();
        x.oar(BOW, 60);
        x.oar(STROKE, 60);
        x.boat(PAIR, 30, 150, 1);
        x.sit(0, 0, 1);
        x.sit(0, 1, 0);
        due("to stay is 2 and 2, to change 4 and 4", x.crew(0, 12, 1), 4);
        due("they stay", x.seat(0, 0), 1);
        x.sit(0, 0, -1);
        due("one is called, and the other stays or changes", x.crew(0, 12, 1), 9);
        due("oar 0 has the least seat of several", x.seat(0, 0), 0);
    }

    private static void crewSits() {
        oars(3, BOTH, 60);
        oars(2, YOUNG, 60);
        x.boat(FOUR, 30, 150, 1);
        x.boat(SINGLE, 30, 150, 1);
        x.sit(0, COX, 0);
        due("does 0", x.crew(0, 7, 0), 20);
        due("nobody sits", x.seat(0, 0), NONE);
        due("does 1", x.crew(0, 7, 1), 20);
        for (int s = 0; s < 4; s++) {
            due("seat " + s, x.seat(0, s), s + 1);
        }
        due("the cox stays", x.seat(0, COX), 0);
        due("it costs nothing now", x.crew(0, 7, 1), 0);
        x.oar(BOTH, 60);
        x.ill(2, 1);
        due("one for one", x.crew(0, 7, 1), 5);
        due("in the ill one's seat", x.seat(0, 1), 5);
        due("who sits nowhere now", x.about(2, 3), NONE);
        due("the young may not at 6", x.crew(0, 6, 0), STATE);
        oars(2, BOW, 60);
        due("two others may", x.crew(0, 6, 1), 12);
        due("oar 6 on seat 2", x.seat(0, 2), 6);
        due("oar 7 on seat 3", x.seat(0, 3), 7);
        due("the young sit nowhere", x.about(3, 3), NONE);
        x.sit(1, 0, 1);
        due("one of another boat is not taken", x.crew(0, 7, 1), 7);
        due("but oar 3", x.seat(0, 0), 3);
        due("oar 1 stays there", x.about(1, 3), 10);
        x.ill(0, 1);
        due("an ill cox is not the crew's matter", x.crew(0, 7, 1), 2);
        due("and stays", x.seat(0, COX), 0);
        eightOfNine();
    }

    private static void eightOfNine() {
        x = new DawnEights();
        for (int i = 0; i < 16; i++) {
            x.oar(i % 2 == 0 ? STROKE : BOW, 60);
        }
        x.boat(EIGHT, 30, 150, 1);
        due("an eight", x.crew(0, 0, 1), 40);
        int[] want = {1, 0, 3, 2, 5, 4, 7, 6};
        for (int s = 0; s < 8; s++) {
            due("eight's seat " + s, x.seat(0, s), want[s]);
        }
    }

    private static void crewRefusals() {
        x.boat(PAIR, 30, 150, 1);
        due("nobody at all", x.crew(0, 0, 0), STATE);
        x.oar(BOTH, 60);
        due("one for two", x.crew(0, 0, 1), STATE);
        due("nothing is changed", x.seat(0, 0), NONE);
        x.oar(BOTH, 60);
        due("hour 0", x.crew(0, 0, 0), 10);
        due("hour 23", x.crew(0, 23, 0), 10);
        due("hour 24", x.crew(0, 24, 0), BAD);
        due("hour -1", x.crew(0, -1, 0), BAD);
        due("does 2", x.crew(0, 0, 2), BAD);
        due("does -1", x.crew(0, 0, -1), BAD);
        due("no boat", x.crew(1, 24, 2), NONE);
        due("no boat -1", x.crew(-1, 0, 0), NONE);
        x.ill(0, 1);
        due("BAD is told ahead of STATE", x.crew(0, 24, 0), BAD);
        due("ill ones do not count", x.crew(0, 0, 0), STATE);
    }

    private static void water() {
        x.boat(SINGLE, 30, 150, 1);
        due("greatest", x.water(29, 200, 12), 0);
        due("least", x.water(0, 0, 0), 0);
        due("d 30", x.water(30, 0, 0), NONE);
        due("d -1", x.water(-1, 0, 0), NONE);
        due("NONE is told ahead of BAD", x.water(30, 201, 13), NONE);
        due("stream 201", x.water(1, 201, 0), BAD);
        due("stream -1", x.water(1, -1, 0), BAD);
        due("wind 13", x.water(1, 0, 13), BAD);
        due("wind -1", x.water(1, 0, -1), BAD);
        due("stream 77, wind 3", x.water(1, 77, 3), 0);
        Check.readRule(x, "bar * if stream=77&wind=3");
        due("not today", x.ruled(0, 0), NONE);
        x.day(1);
        due("today", x.ruled(0, 0), 0);
        x.day(31);
        due("modulo 30", x.ruled(0, 0), 0);
        due("it is laid anew", x.water(1, 77, 4), 0);
        due("and is so", x.ruled(0, 0), NONE);
    }

    private static void feed() {
        due("n 0", x.feed(1, 0), BAD);
        due("n 9", x.feed(1, 9), BAD);
        due("n -1", x.feed(1, -1), BAD);
        due("wild", x.feed(-1L, LEAST), BAD);
        due("nothing came", x.count(8), 0);
        due("the lowest byte", x.feed(0x7A7A_7A62L, 1), 1);
        due("the highest first", x.feed(0x7A61_7220L, 3), 4);
        due("eight", x.feed(0x7369_6E67_6C65_2069L, 8), 12);
        Check.type(x, "f hour<5");
        x.boat(SINGLE, 30, 150, 1);
        due("it reads so", x.rule(), 0);
        due("at 4", x.ruled(0, 4), 0);
        due("at 5", x.ruled(0, 5), NONE);
        for (int i = 1; i <= 14; i++) {
            due("feed " + i, x.feed(-1L, 8), 8 * i);
        }
        due("120", x.feed(0, 8), 120);
        due("one more", x.feed(0, 1), FULL);
        due("BAD is told ahead of FULL", x.feed(0, 0), BAD);
        due("bytes above 127 are no rule", x.rule(), -10);
        x.feed(0, 1);
        for (int i = 0; i < 14; i++) {
            x.feed(0, 8);
        }
        due("113 and 8 are too many", x.feed(0, 8), FULL);
        due("nothing of them came", x.count(8), 113);
        due("7 are not", x.feed(0, 7), 120);
    }

    private static void ruleReads() {
        String[] good = {
            "let pair", "bar *", "bar single if !ice=1", "let four if young=0&size=4",
            "bar eight if stream>99&wind<12&!hour=007", "let quad if month=0&month=00&month=000", "bar * if hour<999",
        };
        for (int i = 0; i < good.length; i++) {
            due(good[i], Check.readRule(x, good[i]), i);
            due("the tape is empty", x.count(8), 0);
            due("rules", x.count(3), i + 1);
        }
    }

    private static void fault(String text, int place) {
        due("'" + text + "'", Check.readRule(x, text), -10 - place);
        due("the tape is empty", x.count(8), 0);
        due("no rule came", x.count(3), 0);
    }

    private static void ruleFaults() {
        fault("", 0);
        fault("x", 0);
        fault("Let pair", 0);
        fault(" let pair", 0);
        fault("l", 1);
        fault("lat pair", 1);
        fault("let", 3);
        fault("letpair", 3);
        fault("let ", 4);
        fault("let  pair", 4);
        fault("let boat", 4);
        fault("let pai", 7);
        fault("let pain", 7);
        fault("bar *x", 5);
        fault("bar **", 5);
        fault("bar * ", 6);
        fault("bar *  if", 6);
        fault("bar * i", 7);
        fault("bar * iffy", 8);
        fault("bar * if", 8);
        fault("bar * if ", 9);
        fault("bar * if  hour=1", 9);
        fault("bar * if !", 10);
        fault("bar * if !!ice=1", 10);
        fault("bar * if s", 10);
        fault("bar * if st", 11);
        fault("bar * if sx", 10);
        fault("bar * if sizf", 12);
        fault("bar * if streem=1", 13);
        fault("bar * if year=1", 10);
        fault("bar * if zone=1", 9);
        fault("bar * if hour", 13);
        fault("bar * if hour!1", 13);
        fault("bar * if hour=", 14);
        fault("bar * if hour==1", 14);
        fault("bar * if hour=-1", 14);
        fault("bar * if hour= 1", 14);
        fault("bar * if hour=1 ", 15);
        fault("bar * if hour=1234", 17);
        fault("bar * if hour=123&", 18);
        fault("bar * if hour=1&&", 16);
        fault("bar * if hour=1|ice=1", 15);
        fault("bar * if ice=1&ice=1&ice=1&ice=1", 26);
        fault("bar * if ice=1&ice=1&ice=1&", 26);
        fault("bar * if ice=1&ice=1&ice", 24);
        fault("bar * if ice=1/", 14);
        fault("bar * if ice=1:", 14);
        fault("bar * if ice=/", 13);
        fault("bar * if ice=:", 13);
    }

    private static void ruleFull() {
        x.boat(SINGLE, 30, 150, 1);
        for (int i = 0; i < 10; i++) {
            due("rule " + i, Check.readRule(x, "let * if hour=" + i), i);
        }
        due("an empty tape", x.rule(), FULL);
        due("a faulty tape", Check.readRule(x, "bad"), FULL);
        due("it stays", x.count(8), 3);
        due("a good one behind it", Check.readRule(x, "bar *"), FULL);
        due("it stays too", x.count(8), 8);
        due("still ten", x.count(3), 10);
        due("none more holds", x.ruled(0, 20), NONE);
        due("the tenth does", x.ruled(0, 9), 9);
        while (x.feed(0, 8) != FULL) {
            due("a longer tape", x.rule(), FULL);
        }
        due("as long as it gets", x.count(8), 120);
        due("again", x.rule(), FULL);
    }

    private static void ruleFaultNearFull() {
        x.boat(SINGLE, 30, 150, 1);
        for (int i = 0; i < 10; i++) {
            Check.readRule(x, "let * if hour=" + i);
            due("a fault below ten rules empties the tape", Check.readRule(x, "bad"), i < 9 ? -12 : FULL);
            due("what is left of it", x.count(8), i < 9 ? 0 : 3);
        }
    }

    private static void ruledByKind() {
        for (int kind = 0; kind < 5; kind++) {
            x.boat(kind, 30, 150, 1);
        }
        due("none", x.ruled(0, 0), NONE);
        String[] kinds = {"pair", "four", "eight", "single", "quad"};
        Check.readRule(x, "let *");
        for (int kind = 0; kind < 5; kind++) {
            Check.readRule(x, "bar " + kinds[kind] + " if hour>3");
        }
        for (int kind = 0; kind < 5; kind++) {
            due("kind " + kind, x.ruled(kind, 4), kind + 1);
            due("kind " + kind + " at 3", x.ruled(kind, 3), 0);
        }
        Check.readRule(x, "let * if hour=5");
        due("the greatest number", x.ruled(2, 5), 6);
        due("no boat", x.ruled(5, 24), NONE);
        due("no boat -1", x.ruled(-1, 0), NONE);
        due("hour 24", x.ruled(0, 24), BAD);
        due("hour -1", x.ruled(0, -1), BAD);
        due("hour 23", x.ruled(0, 23), 1);
    }

    private static void holds(String tests, int b, int hour, boolean so) {
        DawnEights y = x;
        int number = Check.readRule(y, "bar * if " + tests);
        if (number < 0) {
            due("'" + tests + "' reads", number, 0);
            return;
        }
        int asked = y.ruled(b, hour);
        due("'" + tests + "'", asked == number ? 1 : 0, so ? 1 : 0);
    }

    /** A club on a DAY with a WATER: OAR 0 YOUNG, BOATS of all KINDS. */
    private static void river(int day, int stream, int wind) {
        x = new DawnEights();
        x.oar(YOUNG, 60);
        x.oar(BOTH, 60);
        for (int kind = 0; kind < 5; kind++) {
            x.boat(kind, 30, 150, 1);
        }
        x.water(day % 30, stream, wind);
        x.day(day);
    }

    private static void ruledByField() {
        river(0, 100, 7);
        holds("stream=100", 0, 5, true);
        holds("stream<100", 0, 5, false);
        holds("stream<101", 0, 5, true);
        holds("stream>100", 0, 5, false);
        holds("stream>99", 0, 5, true);
        holds("!stream=100", 0, 5, false);
        holds("!stream>100", 0, 5, true);
        holds("wind=7", 0, 5, true);
        holds("wind>7", 0, 5, false);
        holds("wind=007&hour=5", 0, 5, true);
        river(0, 100, 7);
        holds("wind=7&hour=6", 0, 5, false);
        holds("wind=7&hour=5&stream=1", 0, 5, false);
        holds("!wind=8&!hour=6&!stream=1", 0, 5, true);
        int[] seats = {2, 4, 8, 1, 4};
        for (int kind = 0; kind < 5; kind++) {
            holds("size=" + seats[kind], kind, 5, true);
        }
        months();
        youngAndIce();
    }

    private static void months() {
        int[] days = {0, 29, 30, 59, 60, 359, 360, 719, 999};
        int[] month = {0, 0, 1, 1, 2, 11, 0, 11, 9};
        for (int i = 0; i < days.length; i++) {
            river(days[i], 10, 0);
            holds("month=" + month[i], 0, 0, true);
            holds("stream=10", 0, 0, true);
        }
    }

    private static void youngAndIce() {
        river(0, 10, 0);
        holds("young=0", 1, 0, true);
        x.sit(0, 0, 0);
        holds("young=0", 1, 0, true);
        holds("young=1", 0, 0, true);
        x.sit(1, COX, 0);
        holds("young=1", 1, 0, true);
        holds("young=1", 0, 0, false);
        holds("ice=0", 1, 0, true);
        river(59, 9, 0);
        holds("ice=1", 1, 0, true);
        river(60, 9, 0);
        holds("ice=1", 1, 0, false);
        river(360, 0, 0);
        holds("ice=1", 1, 0, true);
    }

    private static void mayInOrder() {
        x.oar(YOUNG, 69);
        x.oar(BOTH, 80);
        x.boat(PAIR, 76, 150, 1);
        x.boat(FOUR, 30, 150, 1);
        Check.readRule(x, "bar * if hour<12");
        x.look(0, 0);
        due("broken", x.may(0, 6), 1);
        x.look(0, 1);
        due("empty", x.may(0, 6), 2);
        x.sit(0, 0, 0);
        due("half empty", x.may(0, 6), 2);
        x.sit(0, 1, 1);
        due("too light: 74, cut", x.may(0, 6), 3);
        x.oar(BOTH, 83);
        x.sit(0, 1, 2);
        due("young at 6", x.may(0, 6), 4);
        due("barred at 7", x.may(0, 7), 5);
        due("barred at 11", x.may(0, 11), 5);
        due("at 12", x.may(0, 12), 0);
        x.ill(2, 1);
        due("ill", x.may(0, 12), 4);
        x.ill(2, 0);
        due("no boat", x.may(2, 24), NONE);
        due("no boat -1", x.may(-1, 0), NONE);
        due("hour 24", x.may(0, 24), BAD);
        due("hour -1", x.may(0, -1), BAD);
        Check.readRule(x, "let pair if hour<12");
        due("let at 7", x.may(0, 7), 0);
        x.look(1, 0);
        due("another boat's look", x.may(0, 7), 0);
        coxToo();
    }

    private static void coxToo() {
        x = new DawnEights();
        oars(4, BOTH, 90);
        x.oar(YOUNG, 40);
        x.boat(FOUR, 90, 90, 1);
        x.crew(0, 6, 1);
        due("no cox", x.may(0, 8), 2);
        x.sit(0, COX, 4);
        due("the cox is not weighed", x.may(0, 8), 0);
        due("the cox is young", x.may(0, 6), 4);
        x.ill(4, 1);
        due("the cox is ill", x.may(0, 8), 4);
        x.ill(4, 0);
        x.sit(0, 2, -1);
        due("a cox, but a seat is empty", x.may(0, 8), 2);
    }

    private static void mayByWeight() {
        int[] second = {79, 80, 81, 82, 83, 84};
        int[] want = {3, 0, 0, 0, 0, 3};
        for (int i = 0; i < second.length; i++) {
            x = new DawnEights();
            x.oar(BOTH, 80);
            x.oar(BOTH, second[i]);
            x.boat(PAIR, 80, 81, 1);
            x.crew(0, 8, 1);
            due("80 and " + second[i], x.may(0, 8), want[i]);
        }
    }

    private static void day() {
        due("to 5", x.day(5), 0);
        due("to 5 again", x.day(5), 5);
        due("back", x.day(4), BAD);
        due("-1", x.day(-1), BAD);
        due("1000", x.day(1000), BAD);
        due("wild", x.day(LEAST), BAD);
        due("still 5", x.count(7), 5);
        due("999", x.day(999), 5);
        due("999 again", x.day(999), 999);
        due("1000 then", x.day(1000), BAD);
    }

    private static void out() {
        oars(2, BOTH, 60);
        x.boat(SINGLE, 30, 150, 1);
        x.boat(SINGLE, 30, 59, 1);
        due("nobody in it", x.out(0, 0), STATE);
        x.sit(0, 0, 0);
        x.sit(1, 0, 1);
        due("too heavy", x.out(1, 0), STATE);
        due("no boat", x.out(2, 24), NONE);
        due("no boat -1", x.out(-1, 0), NONE);
        due("hour 24", x.out(0, 24), BAD);
        due("hour -1", x.out(0, -1), BAD);
        due("BAD is told ahead of STATE", x.out(1, 24), BAD);
        due("none yet", x.count(4), 0);
        for (int i = 0; i < 30; i++) {
            due("outing " + i, x.out(0, i % 24), i);
        }
        due("the 31st", x.out(0, 0), FULL);
        due("STATE is told ahead of FULL", x.out(1, 0), STATE);
        due("thirty", x.count(4), 30);
    }

    private static void look() {
        x.boat(SINGLE, 30, 150, 1);
        due("no boat", x.look(1, 2), NONE);
        due("no boat -1", x.look(-1, 0), NONE);
        due("whole 2", x.look(0, 2), BAD);
        due("whole -1", x.look(0, -1), BAD);
        for (int i = 0; i < 60; i++) {
            due("look " + i, x.look(0, i % 2), i);
            due("broken or whole", x.may(0, 0), i % 2 == 0 ? 1 : 2);
        }
        due("the 61st", x.look(0, 0), FULL);
        due("FULL changes nothing", x.may(0, 0), 2);
        due("BAD is told ahead of FULL", x.look(0, 5), BAD);
        due("sixty", x.count(5), 60);
    }

    private static void brokeIs(int look, int many, int first, int who) {
        due("broke " + look + " many", x.broke(look, 0), many);
        due("broke " + look + " first", x.broke(look, 1), first);
        due("broke " + look + " who", x.broke(look, 2), who);
    }

    private static void broke() {
        oars(6, BOTH, 60);
        x.boat(SINGLE, 30, 150, 1);
        x.boat(SINGLE, 30, 150, 1);
        x.sit(0, 0, 5);
        x.sit(1, 0, 1);
        x.out(1, 8);
        x.out(0, 8);
        x.out(0, 9);
        due("no look", x.broke(0, 0), NONE);
        x.look(0, 0);
        brokeIs(0, 2, 1, 32);
        x.look(0, 0);
        due("it was not whole", x.broke(1, 0), STATE);
        x.look(0, 1);
        due("it is whole", x.broke(2, 2), STATE);
        x.look(0, 0);
        brokeIs(3, 0, NONE, NONE);
        x.look(0, 1);
        x.out(0, 10);
        x.look(0, 1);
        x.out(1, 10);
        x.sit(0, 0, 4);
        x.out(0, 11);
        x.out(0, 12);
        x.sit(0, 0, 3);
        x.look(1, 1);
        x.out(0, 13);
        x.look(0, 0);
        brokeIs(7, 3, 5, 16);
        x.look(1, 0);
        brokeIs(8, 0, NONE, NONE);
        brokeIs(0, 2, 1, 32);
        x.look(0, 1);
        x.out(0, 14);
        brokeIs(7, 3, 5, 16);
        due("no look 10", x.broke(10, 0), NONE);
        due("no look -1", x.broke(-1, 0), NONE);
        due("what 3", x.broke(0, 3), NONE);
        due("what -1", x.broke(0, -1), NONE);
        due("NONE is told ahead of STATE", x.broke(1, 3), NONE);
    }

    private static void outing() {
        oars(5, BOTH, 60);
        x.boat(SINGLE, 30, 150, 1);
        x.boat(FOUR, 30, 150, 1);
        oars(3, BOTH, 60);
        x.sit(1, COX, 7);
        x.sit(0, 0, 2);
        x.crew(1, 0, 1);
        x.day(17);
        due("out", x.out(1, 23), 0);
        x.day(18);
        x.sit(1, 0, -1);
        due("boat", x.outing(0, 0), 1);
        due("day", x.outing(0, 1), 17);
        due("hour", x.outing(0, 2), 23);
        due("who, the cox too", x.outing(0, 3), 1 + 2 + 8 + 16 + 128);
        due("what 4", x.outing(0, 4), NONE);
        due("what -1", x.outing(0, -1), NONE);
        due("no outing", x.outing(1, 0), NONE);
        due("no outing -1", x.outing(-1, 0), NONE);
    }

    private static void heat() {
        x.boat(SINGLE, 30, 150, 1);
        due("no boat", x.heat(1, 1440), NONE);
        due("no boat -1", x.heat(-1, 0), NONE);
        due("minute 1440", x.heat(0, 1440), BAD);
        due("minute -1", x.heat(0, -1), BAD);
        for (int i = 0; i < 20; i++) {
            due("heat " + i, x.heat(0, i == 0 ? 0 : 1439), i);
        }
        due("the 21st", x.heat(0, 0), FULL);
        due("BAD is told ahead of FULL", x.heat(0, 1440), BAD);
        due("twenty", x.count(6), 20);
    }

    private static void near() {
        due("30 at first", x.near(0), 30);
        due("0", x.near(999), 0);
        due("1000", x.near(1000), BAD);
        due("-1", x.near(-1), BAD);
        due("999", x.near(7), 999);
        due("7", x.near(7), 7);
    }

    private static void clashes() {
        oars(2, BOTH, 60);
        x.boat(SINGLE, 30, 150, 1);
        x.boat(SINGLE, 30, 150, 1);
        x.sit(0, 0, 0);
        x.sit(1, 0, 1);
        x.heat(0, 100);
        due("one", x.clashes(), 0);
        x.heat(0, 129);
        due("29 apart", x.clashes(), 1);
        x.heat(0, 70);
        due("30 apart", x.clashes(), 1);
        x.heat(1, 100);
        due("another boat", x.clashes(), 1);
        x.heat(0, 100);
        due("with two", x.clashes(), 3);
        x.near(31);
        due("near 31", x.clashes(), 5);
        x.near(0);
        due("near 0", x.clashes(), 0);
        x.near(1);
        due("near 1", x.clashes(), 1);
        x.near(999);
        due("near 999", x.clashes(), 6);
    }

    private static void shift() {
        x.boat(SINGLE, 30, 150, 1);
        x.boat(SINGLE, 30, 150, 1);
        x.heat(0, 100);
        due("alone", x.shift(0), 100);
        x.heat(0, 120);
        x.heat(0, 179);
        x.heat(1, 160);
        due("over two", x.shift(0), 209);
        due("it is only asked", x.clashes(), 1);
        due("the second", x.shift(1), 130);
        due("none clashes", x.shift(2), 179);
        due("another boat's", x.shift(3), 160);
        x.heat(0, 180);
        due("a gap of 60", x.shift(0), 210);
        x.near(29);
        due("a gap is wide enough", x.shift(0), 149);
        x.near(30);
        due("no heat", x.shift(5), NONE);
        due("no heat -1", x.shift(-1), NONE);
        x.heat(1, 1410);
        x.heat(1, 1409);
        due("past the day", x.shift(5), 1439);
        due("past the day too", x.shift(6), STATE);
        x.near(0);
        due("near 0", x.shift(6), 1409);
    }

    private static void trailerIs(int set, int length, int longest, int... racks) {
        due("trailer " + set + ", " + length, x.trailer(set, length), longest);
        for (int b = 0; b < racks.length; b++) {
            due("rack " + b + " of " + set, x.rack(b), racks[b]);
        }
    }

    private static void trailer() {
        due("of none", x.trailer(0, 1), 0);
        due("no boat", x.trailer(1, 1), BAD);
        int[] lengths = {10, 10, 10, 10, 7, 3, 99, 99};
        for (int length : lengths) {
            x.boat(SINGLE, 30, 150, length);
        }
        trailerIs(0b1111, 999, 20, 0, 0, 1, 1);
        trailerIs(0b1111, 20, 20, 0, 0, 1, 1);
        due("19 is too short", x.trailer(0b1111, 19), STATE);
        trailerIs(0b110111, 999, 17, 0, 1, 2, NONE, 0, 1, NONE);
        trailerIs(0b110110, 999, 10, NONE, 0, 1, NONE, 2, 2, NONE);
        trailerIs(0b10000000, 99, 99, NONE, NONE, NONE, NONE, NONE, NONE, NONE, 0);
        trailerIs(0b11000001, 99, 99, 0, NONE, NONE, NONE, NONE, NONE, 1, 2);
        trailerIs(0b11111111, 999, 99, 0, 0, 0, 0, 0, 0, 1, 2);
        due("bit 8", x.trailer(256, 999), BAD);
        due("-1", x.trailer(-1, 999), BAD);
        due("sign", x.trailer(LEAST, 999), BAD);
        due("length 0", x.trailer(1, 0), BAD);
        due("length 1000", x.trailer(1, 1000), BAD);
        due("of none, length 0", x.trailer(0, 0), BAD);
    }

    private static void rack() {
        x.boat(SINGLE, 30, 150, 5);
        x.boat(SINGLE, 30, 150, 6);
        due("ahead of a trailer", x.rack(0), NONE);
        x.trailer(3, 10);
        due("boat 0", x.rack(0), 0);
        due("boat 1", x.rack(1), 1);
        due("refused", x.trailer(2, 5), STATE);
        due("refused changes nothing", x.rack(0), 0);
        due("bad", x.trailer(4, 5), BAD);
        due("bad changes nothing", x.rack(1), 1);
        x.boat(SINGLE, 30, 150, 5);
        due("a new boat", x.rack(2), NONE);
        x.trailer(2, 10);
        due("not in it", x.rack(0), NONE);
        due("in it", x.rack(1), 0);
        x.trailer(0, 10);
        due("none in it", x.rack(1), NONE);
        due("no boat", x.rack(3), NONE);
        due("no boat -1", x.rack(-1), NONE);
        due("wild", x.rack(MOST), NONE);
    }

    private static void count() {
        oars(2, BOTH, 60);
        for (int i = 0; i < 3; i++) {
            x.boat(SINGLE, 30, 150, 1);
        }
        x.sit(0, 0, 0);
        for (int i = 0; i < 4; i++) {
            x.race(0, 1, 1);
        }
        for (int i = 0; i < 5; i++) {
            Check.readRule(x, "let *");
        }
        for (int i = 0; i < 6; i++) {
            x.out(0, 1);
        }
        for (int i = 0; i < 7; i++) {
            x.look(0, 1);
        }
        for (int i = 0; i < 8; i++) {
            x.heat(0, 1);
        }
        x.day(9);
        x.feed(0, 8);
        x.feed(0, 2);
        for (int what = 0; what <= 8; what++) {
            due("count " + what, x.count(what), what + 2);
        }
        due("what 9", x.count(9), NONE);
        due("what -1", x.count(-1), NONE);
        due("wild", x.count(LEAST), NONE);
    }
}
