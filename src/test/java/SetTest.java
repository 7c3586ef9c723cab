/** Promise 3: set, and what becomes STALE by it. */
public final class SetTest {
    public static void main(String[] args) {
        Calls calls = new Calls();
        wrongInputsChangeNothing(calls);
        everyCellAndName(calls);
        theSameTextAgain(calls);
        oldAndNewName(calls);
        usersOfUsers(calls);
        anotherCellOfAStaleName(calls);
        usersOfACellThatWasStaleBefore(calls);
        calls.end();
    }

    private static void wrongInputsChangeNothing(Calls calls) {
        CellBook book = new CellBook();
        calls.put(book, 0, 'a', "7");
        calls.due("work", book.work(20), 1);
        calls.due("nothing is typed", book.set(0, 1), false);
        calls.due("type", Calls.type(book, "8"), 1);
        for (int wrong : Calls.NO_CELLS) {
            calls.due("set(" + wrong + ", 0)", book.set(wrong, 0), false);
            calls.due("set(0, " + wrong + ")", book.set(0, wrong), false);
        }
        calls.shows(book, 0, CellBook.VALUE, 7, 1);
        calls.due("work", book.work(20), 0);
        calls.due("what was typed is typed yet", Calls.type(book, "9"), 2);
    }

    private static void everyCellAndName(Calls calls) {
        CellBook book = new CellBook();
        for (int c = 0; c < 10; c++) {
            calls.put(book, c, (char) ('j' - c), Integer.toString(c));
        }
        calls.due("work", book.work(20), 10);
        for (int c = 0; c < 10; c++) {
            calls.shows(book, c, CellBook.VALUE, c, 1);
        }
    }

    private static void theSameTextAgain(Calls calls) {
        CellBook book = new CellBook();
        calls.put(book, 0, 'a', "7");
        calls.put(book, 1, 'b', "a");
        calls.due("work", book.work(20), 2);
        calls.put(book, 0, 'a', "7");
        calls.shows(book, 0, CellBook.STALE, 0, 0);
        calls.shows(book, 1, CellBook.STALE, 0, 0);
    }

    private static void oldAndNewName(Calls calls) {
        CellBook book = new CellBook();
        calls.put(book, 0, 'a', "7");
        calls.put(book, 1, 'b', "8");
        calls.put(book, 2, 'c', "a");
        calls.put(book, 3, 'd', "e");
        calls.put(book, 4, 'f', "b");
        calls.due("work", book.work(20), 5);
        calls.put(book, 0, 'e', "6");
        calls.due("b is as it was", book.status(1), CellBook.VALUE);
        calls.due("c misses a", book.status(2), CellBook.MISSING);
        calls.due("d has e now", book.status(3), CellBook.STALE);
        calls.due("f is as it was", book.status(4), CellBook.VALUE);
        calls.due("work on e, c and d", book.work(20), 3);
        calls.shows(book, 3, CellBook.VALUE, 6, 1);
    }

    private static void usersOfUsers(Calls calls) {
        CellBook book = new CellBook();
        // The users stand below what they use, so that one pass over the cells is not enough.
        calls.put(book, 9, 'a', "1");
        for (int c = 8; c >= 0; c--) {
            calls.put(book, c, (char) ('j' - c), "+1" + (char) ('i' - c));
        }
        calls.due("work", book.work(20), 10);
        calls.shows(book, 0, CellBook.VALUE, 10, 1);
        calls.put(book, 9, 'a', "5");
        for (int c = 0; c < 10; c++) {
            calls.due("status(" + c + ")", book.status(c), CellBook.STALE);
        }
        calls.due("work", book.work(20), 10);
        calls.shows(book, 0, CellBook.VALUE, 14, 1);
    }

    private static void anotherCellOfAStaleName(Calls calls) {
        CellBook book = new CellBook();
        calls.put(book, 0, 'a', "b");
        calls.put(book, 1, 'a', "1");
        calls.put(book, 2, 'b', "1");
        calls.put(book, 3, 'c', "a");
        calls.due("work", book.work(20), 4);
        calls.put(book, 2, 'b', "2");
        // Cell 0 uses b and cell 3 the name of cell 0; cell 1 only has that name.
        calls.due("work on cells 0, 2 and 3", book.work(20), 3);
    }

    private static void usersOfACellThatWasStaleBefore(Calls calls) {
        CellBook book = new CellBook();
        calls.put(book, 0, 'a', "1");
        calls.put(book, 1, 'b', "a");
        calls.put(book, 2, 'c', "b");
        calls.due("cancel c, while b is stale", book.cancel(2), true);
        calls.due("status of c", book.status(2), CellBook.CANCELLED);
        calls.put(book, 0, 'a', "2");
        calls.due("c is stale by b, though b was so before", book.status(2), CellBook.STALE);
        calls.due("work", book.work(20), 3);
        calls.shows(book, 2, CellBook.VALUE, 2, 1);
    }
}
