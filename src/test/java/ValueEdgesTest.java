/** The edges of promise 8. */
public final class ValueEdgesTest {
    public static void main(String[] args) {
        Calls calls = new Calls();
        otherwise0(calls);
        oneAndZero(calls);
        extremes(calls);
        noSuchCell(calls);
        calls.end();
    }

    /** "when its status is VALUE, otherwise 0": cell 9 had the value 7 before. */
    private static void otherwise0(Calls calls) {
        for (int status = CellBook.EMPTY; status <= CellBook.VALUE; status++) {
            CellBook book = Stories.withCellNineAt(status);
            calls.due("value(9) at " + status, book.value(9), status == CellBook.VALUE ? 9 : 0);
        }
        CellBook book = Stories.withCellNineAt(CellBook.VALUE);
        calls.put(book, 0, 'a', "2");
        calls.due("STALE by what it uses", book.value(9), 0);
        calls.due("work", book.work(20), 2);
        calls.due("a VALUE again", book.value(9), 10);
        calls.put(book, 3, 'j', "1");
        calls.due("a fault by another cell", book.value(9), 0);
    }

    /** "(1 and 0 for true and false)". */
    private static void oneAndZero(Calls calls) {
        CellBook book = new CellBook();
        calls.means(book, "=55", CellBook.VALUE, 1, 2);
        calls.means(book, "=56", CellBook.VALUE, 0, 2);
        calls.means(book, "<56", CellBook.VALUE, 1, 2);
        calls.means(book, "<65", CellBook.VALUE, 0, 2);
        calls.means(book, "~<65", CellBook.VALUE, 1, 2);
        calls.means(book, "~<56", CellBook.VALUE, 0, 2);
        calls.means(book, "&<56<56", CellBook.VALUE, 1, 2);
        calls.means(book, "&<65<56", CellBook.VALUE, 0, 2);
        calls.means(book, "&<56<65", CellBook.VALUE, 0, 2);
    }

    private static void extremes(Calls calls) {
        CellBook book = new CellBook();
        calls.put(book, 0, 'a', "*4*88");
        calls.due("work", book.work(20), 1);
        calls.means(book, "*a*a*a/a2", CellBook.VALUE, Integer.MIN_VALUE, 1);
        calls.means(book, "-*a*a*a/a21", CellBook.VALUE, Integer.MAX_VALUE, 1);
        calls.means(book, "-01", CellBook.VALUE, -1, 1);
        calls.means(book, "0", CellBook.VALUE, 0, 1);
    }

    private static void noSuchCell(Calls calls) {
        CellBook book = new CellBook();
        for (int c = 0; c < 10; c++) {
            calls.put(book, c, (char) ('a' + c), "7");
        }
        calls.due("work", book.work(20), 10);
        for (int c : Calls.NO_CELLS) {
            calls.due("value(" + c + ")", book.value(c), 0);
        }
        for (int c = 0; c < 10; c++) {
            calls.due("value(" + c + ")", book.value(c), 7);
        }
    }
}
