/** Numbers and texts that look thrown, but are the same in every run. */
final class Dice {
    /** The names in the order in which texts mostly use them, so that cycles are rare. */
    private static final String ORDER = "abejihgcdf";
    private static final String NUMBERS = "abcd";
    private static final String TRUTHS = "ef";
    private static final String FUNCTIONS = "ghij";
    private static final String LOCALS = "klmnop";

    private long state;
    private char defined = 'a';

    Dice(long seed) {
        state = seed;
    }

    /** A number from 0 up to, but not, the bound. */
    int next(int bound) {
        state = state * 6364136223846793005L + 1442695040888963407L;
        return (int) ((state >>> 33) % bound);
    }

    private char oneOf(String signs) {
        return signs.charAt(next(signs.length()));
    }

    /** A name of these that may be used where a name is defined, or the other sign where there is none. */
    private String nameOr(String names, String other) {
        if (next(60) == 0) {
            return "" + oneOf(ORDER);
        }
        char name = oneOf(names);
        return ORDER.indexOf(name) < ORDER.indexOf(defined) ? "" + name : other;
    }

    /** A text that mostly fits a name; now and then one with a sign too many, too few or another. */
    String textFor(char name) {
        defined = name;
        if (name == 'd' && next(3) == 0) {
            return fan("!g" + oneOf("0123456789"));
        }
        String text;
        do {
            text = FUNCTIONS.indexOf(name) >= 0 ? function()
                : TRUTHS.indexOf(name) >= 0 ? truth(next(5), "") : number(next(6), "");
        } while (text.length() > 24);
        return next(20) > 0 ? text : changed(text);
    }

    private String changed(String text) {
        int at = next(text.length());
        String sign = next(3) == 0 ? "" : "" + oneOf("0123456789abcdefghijklmnopq+-*/<=&~?$!#\\%");
        String changed = text.substring(0, at) + sign + text.substring(next(2) == 0 ? at : at + 1);
        return changed.isEmpty() || changed.length() > 24 ? text : changed;
    }

    private String function() {
        String local = "" + oneOf(LOCALS);
        String head = "\\" + local;
        int form = next(6);
        if (form == 0) {
            return head + "?<" + local + "1" + number(0, local) + "+" + local + "!" + defined + "-" + local + "1";
        }
        if (form == 1) {
            String call = "!" + defined + "-" + local + "1";
            return head + "?<" + local + "1" + local + "+" + call + call;
        }
        if (form < 4 && defined != 'j') {
            return head + fan("!" + (char) (defined + 1) + local);
        }
        return head + number(next(6), local);
    }

    /** Five calls: in a chain of functions they use up the fuel. */
    private static String fan(String call) {
        return "+" + call + "+" + call + "+" + call + "+" + call + call;
    }

    private String number(int depth, String bound) {
        if (depth <= 0) {
            String digit = "" + oneOf("0123456789");
            int leaf = next(6);
            return leaf < 3 && !bound.isEmpty() ? "" + oneOf(bound) : leaf < 4 ? nameOr(NUMBERS, digit) : digit;
        }
        int less = depth - 1;
        switch (next(11)) {
            case 0:
                return "?" + truth(less, bound) + number(less, bound) + number(less, bound);
            case 1:
                String local = "" + oneOf(LOCALS);
                return "$" + local + number(less, bound) + number(less, bound + local);
            case 2:
            case 3:
            case 4:
                String name = nameOr(FUNCTIONS, "");
                return name.isEmpty() ? number(less, bound) : "!" + name + number(less, bound);
            case 5:
                return "#" + number(less, bound) + oneOf("0123") + number(less, bound) + oneOf("1234")
                    + number(less, bound);
            case 6:
                return number(0, bound);
            default:
                return oneOf("+-*/") + number(less, bound) + number(less, bound);
        }
    }

    private String truth(int depth, String bound) {
        if (depth <= 0) {
            return nameOr(TRUTHS, "<1" + number(0, bound));
        }
        int less = depth - 1;
        switch (next(8)) {
            case 0:
                return "&" + truth(less, bound) + truth(less, bound);
            case 1:
                return "~" + truth(less, bound);
            case 2:
                return "?" + truth(less, bound) + truth(less, bound) + truth(less, bound);
            case 3:
                String local = "" + oneOf(LOCALS);
                return "$" + local + number(less, bound) + truth(less, bound + local);
            default:
                return oneOf("<=") + number(less, bound) + number(less, bound);
        }
    }
}
