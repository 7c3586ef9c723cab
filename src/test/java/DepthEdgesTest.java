/** "an error DEPTH if 5 functions are being evaluated already (before the expression, behind the E)". */
public final class DepthEdgesTest {
    public static void main(String[] args) {
        Calls calls = new Calls();
        oneFunctionOfItself(calls);
        chainsOfFunctions(calls);
        whatIsOverIsNotCounted(calls);
        behindTheE(calls);
        beforeTheExpression(calls);
        aNameIsNoFunctionBeingEvaluated(calls);
        calls.end();
    }

    private static void comesTo(Calls calls, CellBook book, String text, int status, int value, int steps) {
        int before = book.steps();
        calls.means(book, text, status, value, status == CellBook.VALUE ? 1 : 0);
        calls.due("steps of " + text, book.steps() - before, steps);
    }

    /** !f of n opens n + 1 functions, each of which costs ! and -, k, 1 beside ?, <, k, 1. */
    private static void oneFunctionOfItself(Calls calls) {
        CellBook book = new CellBook();
        calls.put(book, 0, 'f', "\\k?<k17!f-k1");
        calls.due("work", book.work(20), 1);
        comesTo(calls, book, "!f0", CellBook.VALUE, 7, 7);
        for (int n = 1; n <= 4; n++) {
            comesTo(calls, book, "!f" + n, CellBook.VALUE, 7, 7 + 8 * n);
        }
        for (int n = 5; n <= 9; n++) {
            comesTo(calls, book, "!f" + n, CellBook.DEPTH, 0, 2 + 8 * 5);
        }
        comesTo(calls, book, "!f4", CellBook.VALUE, 7, 39);
    }

    /** Functions a to i, each of which calls the next one; i is the end. */
    private static void chainsOfFunctions(Calls calls) {
        CellBook book = new CellBook();
        for (int c = 0; c < 8; c++) {
            calls.put(book, c, (char) ('a' + c), "\\k!" + (char) ('b' + c) + "k");
        }
        calls.put(book, 8, 'i', "\\p+p1");
        calls.due("work", book.work(20), 9);
        comesTo(calls, book, "!i3", CellBook.VALUE, 4, 5);
        comesTo(calls, book, "!h3", CellBook.VALUE, 4, 7);
        comesTo(calls, book, "!f3", CellBook.VALUE, 4, 11);
        comesTo(calls, book, "!e3", CellBook.VALUE, 4, 13);
        comesTo(calls, book, "!d3", CellBook.DEPTH, 0, 12);
        comesTo(calls, book, "!c3", CellBook.DEPTH, 0, 12);
        comesTo(calls, book, "!a3", CellBook.DEPTH, 0, 12);
    }

    private static void whatIsOverIsNotCounted(Calls calls) {
        CellBook book = new CellBook();
        calls.put(book, 0, 'f', "\\k?<k17!f-k1");
        calls.put(book, 1, 'g', "\\kk");
        calls.due("work", book.work(20), 2);
        comesTo(calls, book, "!g!g!g!g!g3", CellBook.VALUE, 3, 11);
        comesTo(calls, book, "+!f4!f4", CellBook.VALUE, 14, 79);
        comesTo(calls, book, "+!f4+!f4!f4", CellBook.VALUE, 21, 119);
        comesTo(calls, book, "!f-!f43", CellBook.VALUE, 7, 1 + 1 + 39 + 1 + 5 + 8 * 4);
        comesTo(calls, book, "!g!f4", CellBook.VALUE, 7, 41);
        comesTo(calls, book, "+!f5!f4", CellBook.DEPTH, 0, 43);
        comesTo(calls, book, "+!f4!f5", CellBook.DEPTH, 0, 82);
    }

    /** In the fifth function: an error in the E comes before DEPTH, and its steps are made. */
    private static void behindTheE(Calls calls) {
        CellBook book = new CellBook();
        calls.put(book, 0, 'f', "\\k?<k1!g/10!f-k1");
        calls.put(book, 1, 'g', "\\kk");
        calls.put(book, 2, 'h', "\\k?<k1!g#k1122!h-k1");
        calls.put(book, 3, 'i', "\\k?<k1!g+kk!i-k1");
        calls.due("work", book.work(20), 4);
        comesTo(calls, book, "!f4", CellBook.DIVISION, 0, 2 + 8 * 4 + 4 + 1 + 3);
        comesTo(calls, book, "!h4", CellBook.MATCH, 0, 2 + 8 * 4 + 4 + 1 + 2);
        comesTo(calls, book, "!i4", CellBook.DEPTH, 0, 2 + 8 * 4 + 4 + 1 + 3);
        comesTo(calls, book, "!i3", CellBook.VALUE, 0, 2 + 8 * 3 + 4 + 1 + 3 + 1);
    }

    /** What the sixth function would come to does not matter, not even its own error. */
    private static void beforeTheExpression(Calls calls) {
        CellBook book = new CellBook();
        calls.put(book, 0, 'f', "\\k?<k1!gk!f-k1");
        calls.put(book, 1, 'g', "\\k/1k");
        calls.due("work", book.work(20), 2);
        comesTo(calls, book, "!f4", CellBook.DEPTH, 0, 2 + 8 * 4 + 4 + 2);
        comesTo(calls, book, "!f3", CellBook.DIVISION, 0, 2 + 8 * 3 + 4 + 2 + 3);
    }

    private static void aNameIsNoFunctionBeingEvaluated(Calls calls) {
        CellBook book = new CellBook();
        calls.put(book, 0, 'f', "\\k?<k1a!f-k1");
        calls.put(book, 1, 'a', "!g4");
        calls.put(book, 2, 'g', "\\k?<k17!g-k1");
        calls.due("work", book.work(20), 3);
        comesTo(calls, book, "!f4", CellBook.VALUE, 7, 39);
    }
}
