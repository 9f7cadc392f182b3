import java.util.regex.Matcher;
import java.util.regex.Pattern;

/** How a RULE is written, as a regular expression. */
final class Grammar {
    static final String TEST = "(!?)(stream|wind|hour|month|size|young|ice)([=<>])([0-9]{1,3})";
    private static final Pattern RULE = Pattern.compile(
        "(let|bar) (pair|four|eight|single|quad|\\*)( if " + TEST + "(&" + TEST + "){0,2})?");

    private Grammar() {
    }

    static boolean isRule(String text) {
        return RULE.matcher(text).matches();
    }

    /** How many bytes begin a RULE at least: the FAULT, if they are not one. */
    static int faultOf(String text) {
        for (int p = 0; p < text.length(); p++) {
            Matcher m = RULE.matcher(text.substring(0, p + 1));
            if (!m.matches() && !m.hitEnd()) {
                return p;
            }
        }
        return text.length();
    }
}
