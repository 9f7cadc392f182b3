/** Clubs with a past, for tests that need more than a new object. No past has more than 240 calls. */
final class Clubs {
    static final int BOW = 0, STROKE = 1, BOTH = 2, SCULLER = 3, YOUNG = 4;
    static final int PAIR = 0, FOUR = 1, EIGHT = 2, SINGLE = 3, QUAD = 4;
    static final int COX = 8;
    static final int NONE = -1, BAD = -2, STATE = -3, FULL = -4, NO_SUCH = -5;
    static final long NO = Long.MIN_VALUE;
    static final int LEAST = Integer.MIN_VALUE, MOST = Integer.MAX_VALUE;
    static final int[] SEATS = {2, 4, 8, 1, 4};
    static final String[] KIND_NAMES = {"pair", "four", "eight", "single", "quad"};

    /** What has been called on an object ahead of a test. */
    interface Past {
        void live(DawnEights x);
    }

    private Clubs() {
    }

    static void fresh(DawnEights x) {
    }

    static void oars(DawnEights x, int many, int kind, int weight) {
        for (int i = 0; i < many; i++) {
            x.oar(kind, weight);
        }
    }

    static void boats(DawnEights x, int many, int kind) {
        for (int i = 0; i < many; i++) {
            x.boat(kind, 30, 150, 10);
        }
    }

    /** A single with OAR 0 in it, who may go at any hour. */
    static void single(DawnEights x) {
        x.oar(SCULLER, 60);
        x.boat(SINGLE, 30, 150, 10);
        x.sit(0, 0, 0);
    }

    /** Some of everything, and room for more of each. */
    static void busy(DawnEights x) {
        int[] kinds = {BOW, STROKE, BOTH, SCULLER, YOUNG, STROKE, BOW, BOTH, BOTH, YOUNG};
        int[] weights = {80, 82, 75, 70, 60, 90, 71, 65, 40, 55};
        for (int o = 0; o < kinds.length; o++) {
            x.oar(kinds[o], weights[o]);
        }
        x.boat(PAIR, 60, 90, 10);
        x.boat(FOUR, 50, 95, 14);
        x.boat(SINGLE, 50, 80, 8);
        x.boat(EIGHT, 30, 150, 20);
        x.boat(QUAD, 30, 150, 13);
        x.sit(0, 0, 0);
        x.sit(0, 1, 1);
        x.sit(1, 0, 2);
        x.sit(1, 1, 5);
        x.sit(1, 2, 7);
        x.sit(1, 3, 9);
        x.sit(1, COX, 4);
        x.sit(2, 0, 3);
        x.ill(6, 1);
        x.race(0, 1, 6);
        x.race(1, 2, 3);
        x.race(0, 2, 12);
        x.race(5, 6, 0);
        x.race(7, 5, -999);
        x.water(11, 60, 5);
        x.water(12, 7, 3);
        x.water(29, 200, 12);
        Check.readRule(x, "bar * if stream>150");
        Check.readRule(x, "let four if !wind=5");
        Check.readRule(x, "bar single if hour<5");
        x.out(0, 8);
        x.out(2, 9);
        x.day(12);
        x.out(2, 10);
        x.look(2, 1);
        x.out(2, 11);
        x.look(2, 0);
        x.look(0, 0);
        x.look(0, 1);
        x.heat(0, 60);
        x.heat(2, 70);
        x.heat(0, 80);
        x.heat(0, 1435);
        x.near(25);
        x.trailer(0b01011, 40);
        Check.type(x, "bar pair i");
    }

    /** As many of everything as there can be: nothing more is taken, and a good RULE's beginning is on THE TAPE. */
    static void brimful(DawnEights x) {
        for (int o = 0; o < 16; o++) {
            x.oar(o % 5, 50 + o);
        }
        for (int b = 0; b < 8; b++) {
            x.boat(SINGLE, 30, 150, 1 + b);
        }
        x.sit(0, 0, 0);
        x.sit(1, 0, 1);
        for (int r = 0; r < 40; r++) {
            x.race(r % 6, r % 6 + 1, r);
        }
        x.water(3, 44, 4);
        x.day(3);
        for (int r = 0; r < 10; r++) {
            Check.readRule(x, "let *");
        }
        Check.type(x, "bar *");
        x.feed(0, 3);
        for (int i = 0; i < 14; i++) {
            x.feed(-1L, 8);
        }
        for (int i = 0; i < 30; i++) {
            x.out(0, i % 24);
        }
        for (int i = 0; i < 60; i++) {
            x.look(i % 2, i % 7 == 0 ? 0 : 1);
        }
        for (int i = 0; i < 20; i++) {
            x.heat(i % 2, 50 * i);
        }
        x.trailer(0b10110101, 20);
    }
}
