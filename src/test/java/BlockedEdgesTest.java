/** The edges of BLOCKED among the RESULTS (promises 5 and 7). */
public final class BlockedEdgesTest {
    public static void main(String[] args) {
        Calls calls = new Calls();
        byEveryStatus(calls);
        beforeType(calls);
        otherThanItself(calls);
        whereNothingIsEvaluated(calls);
        throughChains(calls);
        calls.end();
    }

    /** "if a cell that defines what it uses has a fault, or is BLOCKED, CANCELLED, or has TYPE or an error". */
    private static void byEveryStatus(Calls calls) {
        for (int status = CellBook.SYNTAX; status <= CellBook.VALUE; status++) {
            boolean isGiven = status == CellBook.VALUE;
            int due = isGiven ? CellBook.VALUE : status == CellBook.FUNCTION ? CellBook.TYPE : CellBook.BLOCKED;
            if (status != CellBook.STALE) {
                CellBook book = Stories.withCellNineAt(status);
                calls.put(book, 2, 'd', "+1j");
                calls.due("work is done", book.work(20) > 0, true);
                calls.due("status(9)", book.status(9), status);
                calls.shows(book, 2, due, isGiven ? 10 : 0, isGiven ? 1 : 0);
                calls.due("runs(2) with j at " + status, book.runs(2), isGiven ? 1 : 0);
            }
        }
        CellBook book = new CellBook();
        calls.put(book, 0, 'a', "!f1");
        calls.put(book, 1, 'f', "\\k=kk");
        calls.due("work", book.work(20), 2);
        calls.due("a function with TYPE", book.status(0), CellBook.BLOCKED);
        calls.put(book, 1, 'f', "\\kk");
        calls.due("cancel", book.cancel(1), true);
        calls.due("work", book.work(20), 1);
        calls.due("a function that is CANCELLED", book.status(0), CellBook.BLOCKED);
        calls.put(book, 1, 'f', "\\kb");
        calls.put(book, 2, 'b', "/10");
        calls.due("work", book.work(20), 3);
        calls.due("a function that is BLOCKED", book.status(1), CellBook.BLOCKED);
        calls.due("what uses it", book.status(0), CellBook.BLOCKED);
    }

    /** "otherwise TYPE". */
    private static void beforeType(Calls calls) {
        CellBook book = new CellBook();
        calls.put(book, 0, 'a', "+~1b");
        calls.put(book, 1, 'b', "/10");
        calls.due("work", book.work(20), 2);
        calls.due("BLOCKED before TYPE", book.status(0), CellBook.BLOCKED);
        calls.put(book, 1, 'b', "1");
        calls.due("work", book.work(20), 2);
        calls.due("TYPE", book.status(0), CellBook.TYPE);
    }

    /** "(other than itself)". */
    private static void otherThanItself(Calls calls) {
        CellBook book = new CellBook();
        calls.put(book, 0, 'f', "\\k!fb");
        calls.put(book, 1, 'b', "=11");
        calls.due("work", book.work(20), 2);
        calls.due("f has TYPE", book.status(0), CellBook.TYPE);
        calls.put(book, 0, 'f', "\\k!fk");
        calls.due("f is not BLOCKED by the TYPE that it had", book.work(20), 1);
        calls.due("f", book.status(0), CellBook.FUNCTION);
        calls.put(book, 0, 'f', "\\k+k!fk");
        calls.due("cancel", book.cancel(0), true);
        calls.put(book, 0, 'f', "\\k+k!fk");
        calls.due("nor by having been CANCELLED", book.work(20), 1);
        calls.due("f", book.status(0), CellBook.FUNCTION);
    }

    private static void whereNothingIsEvaluated(Calls calls) {
        CellBook book = new CellBook();
        calls.put(book, 0, 'a', "?=111b");
        calls.put(book, 1, 'b', "/10");
        calls.put(book, 2, 'f', "\\k?=111b");
        calls.due("work", book.work(20), 3);
        calls.due("the names in the text count", book.status(0), CellBook.BLOCKED);
        calls.due("in a function, too", book.status(2), CellBook.BLOCKED);
    }

    /** A chain of ten: an error at its end blocks all others; when it is mended, all have values. */
    private static void throughChains(Calls calls) {
        CellBook book = new CellBook();
        calls.put(book, 0, 'a', "/10");
        for (int c = 1; c < 10; c++) {
            calls.put(book, c, (char) ('a' + c), "+1" + (char) ('a' + c - 1));
        }
        calls.due("work", book.work(20), 10);
        calls.due("status(0)", book.status(0), CellBook.DIVISION);
        for (int c = 1; c < 10; c++) {
            calls.shows(book, c, CellBook.BLOCKED, 0, 0);
            calls.due("runs(" + c + ")", book.runs(c), 0);
        }
        calls.put(book, 0, 'a', "1");
        calls.due("work", book.work(20), 10);
        calls.shows(book, 9, CellBook.VALUE, 10, 1);
    }
}
