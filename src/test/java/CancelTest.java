/** Promise 6: cancel. */
public final class CancelTest {
    public static void main(String[] args) {
        Calls calls = new Calls();
        wrongInputs(calls);
        cellsThatAreNotStale(calls);
        cancelWhileOthersAreStale(calls);
        cancelAFunction(calls);
        calls.end();
    }

    private static void wrongInputs(Calls calls) {
        CellBook book = new CellBook();
        for (int wrong : Calls.NO_CELLS) {
            calls.due("cancel(" + wrong + ")", book.cancel(wrong), false);
        }
        calls.due("an EMPTY cell", book.cancel(0), false);
    }

    private static void cellsThatAreNotStale(Calls calls) {
        CellBook book = new CellBook();
        calls.put(book, 0, 'a', "b");
        calls.due("one with a fault", book.cancel(0), false);
        calls.due("it is STALE behind that as before", book.work(20), 1);
        calls.put(book, 0, 'a', "3");
        calls.due("work", book.work(20), 1);
        calls.due("one with a VALUE", book.cancel(0), false);
        calls.shows(book, 0, CellBook.VALUE, 3, 1);
        calls.put(book, 0, 'a', "4");
        calls.due("a STALE one", book.cancel(0), true);
        calls.shows(book, 0, CellBook.CANCELLED, 0, 0);
        calls.due("a CANCELLED one", book.cancel(0), false);
        calls.due("there is nothing to work on", book.work(20), 0);
        calls.due("runs", book.runs(0), 1);
    }

    private static void cancelWhileOthersAreStale(Calls calls) {
        CellBook book = new CellBook();
        calls.put(book, 0, 'a', "1");
        calls.put(book, 1, 'b', "a");
        calls.put(book, 2, 'c', "b");
        calls.due("cancel b", book.cancel(1), true);
        calls.due("work on a and c", book.work(20), 2);
        calls.shows(book, 0, CellBook.VALUE, 1, 1);
        calls.shows(book, 1, CellBook.CANCELLED, 0, 0);
        calls.shows(book, 2, CellBook.BLOCKED, 0, 0);
        calls.put(book, 0, 'a', "2");
        calls.due("work on all", book.work(20), 3);
        calls.shows(book, 2, CellBook.VALUE, 2, 1);
        calls.put(book, 0, 'a', "2");
        calls.due("cancel c", book.cancel(2), true);
        calls.due("then b", book.cancel(1), true);
        calls.due("work on a alone", book.work(20), 1);
        calls.due("c", book.status(2), CellBook.CANCELLED);
        calls.due("remove c", book.remove(2), true);
        calls.due("c", book.status(2), CellBook.EMPTY);
    }

    private static void cancelAFunction(Calls calls) {
        CellBook book = new CellBook();
        calls.put(book, 0, 'f', "\\kk");
        calls.put(book, 1, 'a', "!f1");
        calls.due("cancel f", book.cancel(0), true);
        calls.due("work on a", book.work(20), 1);
        calls.due("a", book.status(1), CellBook.BLOCKED);
        calls.due("no RUN", book.runs(1), 0);
        calls.put(book, 2, 'f', "\\kk");
        calls.due("a CANCELLED cell shows its new fault", book.status(0), CellBook.DUPLICATE);
    }
}
