/** The edges of the types (promises 5 and 7, TYPE): each E of each sign with the type it has to have and the other. */
public final class IntAndBoolEdgesTest {
    private static final int WRONG = 0;
    private static final int INT = 1;
    private static final int BOOL = 2;

    public static void main(String[] args) {
        Calls calls = new Calls();
        leaves(calls);
        signsOfInts(calls);
        signsOfBools(calls);
        choices(calls);
        bindings(calls);
        callsOfFunctions(calls);
        matches(calls);
        functions(calls);
        whereNothingIsEvaluated(calls);
        calls.end();
    }

    /** a is an INT, b a BOOL, f a function; the text stands in cell 9, which is j. */
    private static void hasType(Calls calls, String text, int type) {
        CellBook book = new CellBook();
        calls.put(book, 0, 'a', "1");
        calls.put(book, 1, 'b', "=11");
        calls.put(book, 2, 'f', "\\kk");
        calls.due("work", book.work(20), 3);
        calls.put(book, 9, 'j', text);
        calls.due("work on " + text, book.work(20), 1);
        boolean isFunction = text.startsWith("\\");
        int due = type == WRONG ? CellBook.TYPE : isFunction ? CellBook.FUNCTION : CellBook.VALUE;
        calls.due("status of " + text, book.status(9), due);
        calls.due("kind of " + text, book.kind(9), isFunction ? 0 : type);
        calls.due("runs of " + text, book.runs(9), due == CellBook.VALUE ? 1 : 0);
    }

    /** "a name is of the type of the cell that defines it, which may be no function". */
    private static void leaves(Calls calls) {
        hasType(calls, "0", INT);
        hasType(calls, "a", INT);
        hasType(calls, "b", BOOL);
        hasType(calls, "f", WRONG);
        hasType(calls, "$k1k", INT);
        hasType(calls, "$k1f", WRONG);
        hasType(calls, "?bff", WRONG);
        hasType(calls, "+f1", WRONG);
        hasType(calls, "~f", WRONG);
    }

    /** "The E of "+" to "=" ... have to be INT". */
    private static void signsOfInts(Calls calls) {
        for (char sign : "+-*/<=".toCharArray()) {
            hasType(calls, sign + "aa", "<=".indexOf(sign) >= 0 ? BOOL : INT);
            hasType(calls, sign + "ab", WRONG);
            hasType(calls, sign + "ba", WRONG);
            hasType(calls, sign + "bb", WRONG);
        }
    }

    /** "those of "&" and "~" BOOL". */
    private static void signsOfBools(Calls calls) {
        hasType(calls, "&bb", BOOL);
        hasType(calls, "&ab", WRONG);
        hasType(calls, "&ba", WRONG);
        hasType(calls, "&aa", WRONG);
        hasType(calls, "~b", BOOL);
        hasType(calls, "~a", WRONG);
        hasType(calls, "~0", WRONG);
    }

    /** "?" is of the type of its last two E, which have to be of the same type; "the first of "?" BOOL". */
    private static void choices(Calls calls) {
        hasType(calls, "?baa", INT);
        hasType(calls, "?bbb", BOOL);
        hasType(calls, "?bab", WRONG);
        hasType(calls, "?bba", WRONG);
        hasType(calls, "?aaa", WRONG);
        hasType(calls, "?abb", WRONG);
        hasType(calls, "?b~a~a", WRONG);
    }

    /** "both of "$" INT first (it is of the type of the last one)". */
    private static void bindings(Calls calls) {
        hasType(calls, "$kaa", INT);
        hasType(calls, "$kab", BOOL);
        hasType(calls, "$kba", WRONG);
        hasType(calls, "$kbb", WRONG);
        hasType(calls, "$kb1", WRONG);
        hasType(calls, "$ka~k", WRONG);
        hasType(calls, "~$kab", BOOL);
        hasType(calls, "~$kaa", WRONG);
    }

    /** "behind "!" there is the name of a function", and its E "have to be INT". */
    private static void callsOfFunctions(Calls calls) {
        hasType(calls, "!fa", INT);
        hasType(calls, "!fb", WRONG);
        hasType(calls, "!ff", WRONG);
        hasType(calls, "!aa", WRONG);
        hasType(calls, "!ba", WRONG);
        hasType(calls, "~!fa", WRONG);
        hasType(calls, "+1!fa", INT);
    }

    /** The E of "#" have to be INT. */
    private static void matches(Calls calls) {
        hasType(calls, "#a1a2a", INT);
        hasType(calls, "#b1a2a", WRONG);
        hasType(calls, "#a1b2a", WRONG);
        hasType(calls, "#a1a2b", WRONG);
        hasType(calls, "#a1b2b", WRONG);
        hasType(calls, "~#a1a2a", WRONG);
    }

    /** "that of a function INT. (In a function its own name may stand behind "!".)" */
    private static void functions(Calls calls) {
        hasType(calls, "\\kk", INT);
        hasType(calls, "\\ka", INT);
        hasType(calls, "\\kb", WRONG);
        hasType(calls, "\\k=kk", WRONG);
        hasType(calls, "\\k~k", WRONG);
        hasType(calls, "\\k!jk", INT);
        hasType(calls, "\\k!jb", WRONG);
        hasType(calls, "\\k+k!j!jk", INT);
        hasType(calls, "\\kj", WRONG);
        hasType(calls, "\\k+!jkj", WRONG);
        hasType(calls, "\\k!fk", INT);
        hasType(calls, "\\kf", WRONG);
        hasType(calls, "\\k!ak", WRONG);
    }

    private static void whereNothingIsEvaluated(Calls calls) {
        hasType(calls, "?~b+1ba", WRONG);
        hasType(calls, "?ba+1b", WRONG);
        hasType(calls, "&~b~1", WRONG);
        hasType(calls, "#a1a2~1", WRONG);
    }
}
