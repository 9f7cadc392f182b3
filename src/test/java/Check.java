/** Counts the answers that are not as due, and prints them. */
final class Check {
    private int wrong = 0;
    private int asked = 0;

    void due(String call, long got, long want) {
        asked++;
        if (got != want) {
            wrong++;
            if (wrong <= 50) {
                System.out.println(call + " answered " + got + ", due is " + want);
            }
        }
    }

    void isTrue(String what, boolean so) {
        due(what, so ? 1 : 0, 1);
    }

    void end(String name) {
        System.out.println(name + ": " + asked + " answers, " + wrong + " wrong");
        if (wrong != 0) {
            System.exit(1);
        }
    }

    /** Feeds a text, eight bytes at most a call; tells the last call's answer. */
    static int type(DawnEights x, String text) {
        int answer = x.count(8);
        for (int from = 0; from < text.length(); from += 8) {
            int to = Math.min(from + 8, text.length());
            long w = 0;
            for (int i = from; i < to; i++) {
                w = w << 8 | text.charAt(i) & 0xFF;
            }
            answer = x.feed(w, to - from);
        }
        return answer;
    }

    static int readRule(DawnEights x, String text) {
        type(x, text);
        return x.rule();
    }
}
