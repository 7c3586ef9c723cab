/** The edges of the MEANING (promises 5, 7 and 8), but for DEPTH and FUEL, which have tests of their own. */
public final class MeaningEdgesTest {
    public static void main(String[] args) {
        Calls calls = new Calls();
        intsWrap(calls);
        quotients(calls);
        divisionByZero(calls);
        lessAndEqual(calls);
        notEvaluated(calls);
        bindings(calls);
        localsOfFunctions(calls);
        matches(calls);
        noneMatches(calls);
        inTheirOrder(calls);
        calls.end();
    }

    /** a is 256, b the least INT, c the greatest; the text stands in cell 9, which is j. */
    private static CellBook withExtremes(Calls calls) {
        CellBook book = new CellBook();
        calls.put(book, 0, 'a', "*4*88");
        calls.put(book, 1, 'b', "*a*a*a/a2");
        calls.put(book, 2, 'c', "-b1");
        calls.due("work", book.work(20), 3);
        calls.shows(book, 1, CellBook.VALUE, Integer.MIN_VALUE, 1);
        calls.shows(book, 2, CellBook.VALUE, Integer.MAX_VALUE, 1);
        return book;
    }

    private static void isInt(Calls calls, CellBook book, String text, int value, int steps) {
        int before = book.steps();
        calls.means(book, text, CellBook.VALUE, value, 1);
        calls.due("steps of " + text, book.steps() - before, steps);
    }

    private static void isBool(Calls calls, CellBook book, String text, boolean value, int steps) {
        int before = book.steps();
        calls.means(book, text, CellBook.VALUE, value ? 1 : 0, 2);
        calls.due("steps of " + text, book.steps() - before, steps);
    }

    private static void isError(Calls calls, CellBook book, String text, int error, int steps) {
        int before = book.steps();
        calls.means(book, text, error, 0, 0);
        calls.due("steps of " + text, book.steps() - before, steps);
    }

    /** "INTs are ints that wrap." */
    private static void intsWrap(Calls calls) {
        CellBook book = withExtremes(calls);
        isInt(calls, book, "+c0", Integer.MAX_VALUE, 3);
        isInt(calls, book, "+c1", Integer.MIN_VALUE, 3);
        isInt(calls, book, "+1c", Integer.MIN_VALUE, 3);
        isInt(calls, book, "+c9", Integer.MIN_VALUE + 8, 3);
        isInt(calls, book, "+cc", -2, 3);
        isInt(calls, book, "+bb", 0, 3);
        isInt(calls, book, "-b0", Integer.MIN_VALUE, 3);
        isInt(calls, book, "-b1", Integer.MAX_VALUE, 3);
        isInt(calls, book, "-0b", Integer.MIN_VALUE, 3);
        isInt(calls, book, "-0c", -Integer.MAX_VALUE, 3);
        isInt(calls, book, "-cb", -1, 3);
        isInt(calls, book, "-bc", 1, 3);
        isInt(calls, book, "*c1", Integer.MAX_VALUE, 3);
        isInt(calls, book, "*c2", -2, 3);
        isInt(calls, book, "*cc", 1, 3);
        isInt(calls, book, "*b2", 0, 3);
        isInt(calls, book, "*b3", Integer.MIN_VALUE, 3);
        isInt(calls, book, "*b-01", Integer.MIN_VALUE, 5);
        isInt(calls, book, "*bc", Integer.MIN_VALUE, 3);
        isInt(calls, book, "*aa", 65536, 3);
        isInt(calls, book, "*a*a*aa", 0, 7);
        isInt(calls, book, "$kc+k1", Integer.MIN_VALUE, 5);
    }

    /** "/" is Java's quotient. */
    private static void quotients(Calls calls) {
        CellBook book = withExtremes(calls);
        isInt(calls, book, "/72", 3, 3);
        isInt(calls, book, "/-072", -3, 5);
        isInt(calls, book, "/7-02", -3, 5);
        isInt(calls, book, "/-07-02", 3, 7);
        isInt(calls, book, "/12", 0, 3);
        isInt(calls, book, "/-012", 0, 5);
        isInt(calls, book, "/09", 0, 3);
        isInt(calls, book, "/91", 9, 3);
        isInt(calls, book, "/9-01", -9, 5);
        isInt(calls, book, "/b1", Integer.MIN_VALUE, 3);
        isInt(calls, book, "/b-01", Integer.MIN_VALUE, 5);
        isInt(calls, book, "/c-01", -Integer.MAX_VALUE, 5);
        isInt(calls, book, "/b2", -(1 << 30), 3);
        isInt(calls, book, "/bb", 1, 3);
        isInt(calls, book, "/cb", 0, 3);
        isInt(calls, book, "/bc", -1, 3);
    }

    /** "an error DIVISION if the second is 0". */
    private static void divisionByZero(Calls calls) {
        CellBook book = withExtremes(calls);
        isError(calls, book, "/10", CellBook.DIVISION, 3);
        isError(calls, book, "/00", CellBook.DIVISION, 3);
        isError(calls, book, "/b0", CellBook.DIVISION, 3);
        isError(calls, book, "/9-11", CellBook.DIVISION, 5);
        isError(calls, book, "/9+bb", CellBook.DIVISION, 5);
        isError(calls, book, "+/10+11", CellBook.DIVISION, 4);
        isError(calls, book, "~<1/10", CellBook.DIVISION, 6);
        isError(calls, book, "$k/10k", CellBook.DIVISION, 4);
        isError(calls, book, "$k0/1k", CellBook.DIVISION, 5);
        isInt(calls, book, "/1-10", 1, 5);
        isInt(calls, book, "/1-01", -1, 5);
    }

    /** "<" less, "=" equal, "&" both, "~" not. */
    private static void lessAndEqual(Calls calls) {
        CellBook book = withExtremes(calls);
        isBool(calls, book, "<45", true, 3);
        isBool(calls, book, "<55", false, 3);
        isBool(calls, book, "<65", false, 3);
        isBool(calls, book, "<bc", true, 3);
        isBool(calls, book, "<cb", false, 3);
        isBool(calls, book, "<bb", false, 3);
        isBool(calls, book, "<-010", true, 5);
        isBool(calls, book, "<0-01", false, 5);
        isBool(calls, book, "=45", false, 3);
        isBool(calls, book, "=55", true, 3);
        isBool(calls, book, "=65", false, 3);
        isBool(calls, book, "=bc", false, 3);
        isBool(calls, book, "=b+c1", true, 5);
        isBool(calls, book, "=aa", true, 3);
        isBool(calls, book, "=1-01", false, 5);
        isBool(calls, book, "&=11=11", true, 7);
        isBool(calls, book, "&=11=12", false, 7);
        isBool(calls, book, "~=11", false, 4);
        isBool(calls, book, "~=12", true, 4);
    }

    /** "(the second E is not evaluated if the first is false)"; "(the other one is not evaluated)". */
    private static void notEvaluated(Calls calls) {
        CellBook book = new CellBook();
        isBool(calls, book, "&=12=1/10", false, 4);
        isBool(calls, book, "&=12=11", false, 4);
        isError(calls, book, "&=11=1/10", CellBook.DIVISION, 9);
        isInt(calls, book, "?=115/10", 5, 5);
        isError(calls, book, "?=11/105", CellBook.DIVISION, 7);
        isInt(calls, book, "?=12/105", 5, 5);
        isError(calls, book, "?=125/10", CellBook.DIVISION, 7);
        isBool(calls, book, "?=12=1/10=11", true, 7);
    }

    /** "$" ... with the local having that value (in place of one that it had). */
    private static void bindings(Calls calls) {
        CellBook book = new CellBook();
        isInt(calls, book, "$k7k", 7, 3);
        isInt(calls, book, "$k7$k8k", 8, 5);
        isInt(calls, book, "$k7$k+k1k", 8, 7);
        isInt(calls, book, "$k7-$k1kk", -6, 7);
        isInt(calls, book, "$k7-k$k1k", 6, 7);
        isInt(calls, book, "$k$k3k+k1", 4, 7);
        isInt(calls, book, "$k7$l8-kl", -1, 7);
        isInt(calls, book, "$p7$k8-pk", -1, 7);
        isInt(calls, book, "$k7-$l1+klk", 1, 9);
        for (char local = 'k'; local <= 'p'; local++) {
            isInt(calls, book, "$" + local + "6+" + local + "1", 7, 5);
        }
    }

    /** "the function's expression with its local having that value, and no others". */
    private static void localsOfFunctions(Calls calls) {
        CellBook book = new CellBook();
        calls.put(book, 0, 'f', "\\k$l+k1*kl");
        calls.put(book, 1, 'g', "\\l?<l11*l!g-l1");
        calls.put(book, 2, 'h', "\\p-!fp!fp");
        calls.put(book, 3, 'i', "\\l?<l11*!i-l1l");
        calls.put(book, 4, 'e', "\\k-$k1kk");
        calls.due("work", book.work(20), 5);
        isInt(calls, book, "!f3", 12, 9);
        isInt(calls, book, "$k9-!f3k", 3, 13);
        isInt(calls, book, "$l9-!f3l", 3, 13);
        isInt(calls, book, "$k2$l3+!fk*kl", 12, 17);
        isInt(calls, book, "$l5+!g3l", 11, 41);
        isInt(calls, book, "!h4", 0, 21);
        isInt(calls, book, "!i4", 24, 47);
        isInt(calls, book, "!e7", -6, 7);
        calls.put(book, 0, 'f', "\\k+kl");
        calls.due("a local of the caller is not BOUND in it", book.status(0), CellBook.SYNTAX);
    }

    /** "#" evaluates its first E, and then the E behind the first digit that is its value. */
    private static void matches(Calls calls) {
        CellBook book = new CellBook();
        for (int value = 0; value <= 9; value++) {
            int other = (value + 1) % 10;
            isInt(calls, book, "#" + value + value + "5" + other + "6", 5, 3);
            isInt(calls, book, "#" + value + other + "5" + value + "6", 6, 3);
            isInt(calls, book, "#" + value + value + "5" + value + "6", 5, 3);
        }
        isInt(calls, book, "#1151/10", 5, 3);
        isInt(calls, book, "#1152/10", 5, 3);
        isInt(calls, book, "#21/1025", 5, 3);
        isError(calls, book, "#11/1025", CellBook.DIVISION, 5);
        isInt(calls, book, "#-43152+33", 5, 5);
    }

    /** "an error MATCH if none is". */
    private static void noneMatches(Calls calls) {
        CellBook book = withExtremes(calls);
        isError(calls, book, "#01122", CellBook.MATCH, 2);
        isError(calls, book, "#31122", CellBook.MATCH, 2);
        isError(calls, book, "#90182", CellBook.MATCH, 2);
        isError(calls, book, "#-010112", CellBook.MATCH, 4);
        isError(calls, book, "#-011102", CellBook.MATCH, 4);
        isError(calls, book, "#+911102", CellBook.MATCH, 4);
        isError(calls, book, "#+919102", CellBook.MATCH, 4);
        isError(calls, book, "#*680112", CellBook.MATCH, 4);
        isError(calls, book, "#*770112", CellBook.MATCH, 4);
        isError(calls, book, "#a0112", CellBook.MATCH, 2);
        isError(calls, book, "#+1a0112", CellBook.MATCH, 4);
        isError(calls, book, "#b0182", CellBook.MATCH, 2);
        isError(calls, book, "#c9182", CellBook.MATCH, 2);
        isError(calls, book, "#31/102/10", CellBook.MATCH, 2);
        isError(calls, book, "#/101122", CellBook.DIVISION, 4);
    }

    /** "E are evaluated in the order in which they stand." */
    private static void inTheirOrder(Calls calls) {
        CellBook book = new CellBook();
        for (char sign : "+-*/".toCharArray()) {
            isError(calls, book, sign + "/10#01122", CellBook.DIVISION, 4);
            isError(calls, book, sign + "#01122/10", CellBook.MATCH, 3);
        }
        isError(calls, book, "=/10#01122", CellBook.DIVISION, 4);
        isError(calls, book, "=#01122/10", CellBook.MATCH, 3);
        isError(calls, book, "</10#01122", CellBook.DIVISION, 4);
        isError(calls, book, "<#01122/10", CellBook.MATCH, 3);
        isError(calls, book, "&=1/10=1#01122", CellBook.DIVISION, 6);
        isError(calls, book, "?=1/10#011221", CellBook.DIVISION, 6);
        isError(calls, book, "$k/10#01122", CellBook.DIVISION, 4);
        isError(calls, book, "$k#01122/10", CellBook.MATCH, 3);
        isError(calls, book, "#/101#0112223", CellBook.DIVISION, 4);
        isError(calls, book, "/#011220", CellBook.MATCH, 3);
    }
}
