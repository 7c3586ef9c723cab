/** The edges of promise 4. */
public final class RemoveEdgesTest {
    public static void main(String[] args) {
        Calls calls = new Calls();
        everyCell(calls);
        fromEveryStatus(calls);
        whatIsTypedStays(calls);
        itWasEmpty(calls);
        noSuchCell(calls);
        calls.end();
    }

    /** "Cell c is EMPTY now." */
    private static void everyCell(Calls calls) {
        for (int c = 0; c < 10; c++) {
            CellBook book = new CellBook();
            for (int other = 0; other < 10; other++) {
                calls.put(book, other, (char) ('a' + other), "" + other);
            }
            calls.due("work", book.work(20), 10);
            calls.due("remove(" + c + ")", book.remove(c), true);
            for (int other = 0; other < 10; other++) {
                calls.shows(book, other, other == c ? CellBook.EMPTY : CellBook.VALUE, other == c ? 0 : other,
                    other == c ? 0 : 1);
            }
            calls.due("no cell is STALE by that", book.work(20), 0);
        }
    }

    private static void fromEveryStatus(Calls calls) {
        for (int status = CellBook.EMPTY; status <= CellBook.VALUE; status++) {
            CellBook book = Stories.withCellNineAt(status);
            calls.due("remove(9) at " + status, book.remove(9), status != CellBook.EMPTY);
            calls.shows(book, 9, CellBook.EMPTY, 0, 0);
            calls.due("uses(9)", book.uses(9), 0);
            calls.due("runs(9)", book.runs(9), Stories.runsAt(status));
            calls.due("cancel(9), as an EMPTY cell is not STALE", book.cancel(9), false);
            // Where cell 9 was a DUPLICATE, the other one is STALE.
            calls.due("work(20)", book.work(20), status == CellBook.DUPLICATE ? 1 : 0);
            calls.shows(book, 9, CellBook.EMPTY, 0, 0);
            calls.due("remove(9) again", book.remove(9), false);
        }
    }

    private static void whatIsTypedStays(Calls calls) {
        CellBook book = new CellBook();
        calls.put(book, 0, 'a', "1");
        calls.due("type", Calls.type(book, "-9"), 2);
        calls.due("remove", book.remove(0), true);
        calls.due("type", Calls.type(book, "3"), 3);
        calls.due("set", book.set(0, 0), true);
        calls.due("work", book.work(20), 1);
        calls.shows(book, 0, CellBook.VALUE, 6, 1);
    }

    /** "False when it was". */
    private static void itWasEmpty(Calls calls) {
        for (int c = 0; c < 10; c++) {
            int cell = c;
            Twins.refuses(calls, "remove(" + c + ") of a new book", book -> { }, book -> book.remove(cell));
            Twins.refuses(calls, "remove(" + c + ") again", book -> {
                Stories.results(book);
                book.remove(cell);
            }, book -> book.remove(cell));
        }
    }

    /** "or there is none such". */
    private static void noSuchCell(Calls calls) {
        for (int c : Calls.NO_CELLS) {
            Twins.refuses(calls, "remove(" + c + ")", Stories::results, book -> book.remove(c));
            Twins.refuses(calls, "remove(" + c + ")", Stories::faults, book -> book.remove(c));
        }
    }
}
