/** Promise 4: remove. */
public final class RemoveTest {
    public static void main(String[] args) {
        Calls calls = new Calls();
        CellBook book = new CellBook();
        for (int wrong : Calls.NO_CELLS) {
            calls.due("remove(" + wrong + ")", book.remove(wrong), false);
        }
        calls.due("an EMPTY cell", book.remove(3), false);
        removeAndFollow(calls, book);
        removeAStaleCell(calls);
        removeOneOfTwo(calls);
        removeOneOfACycle(calls);
        calls.end();
    }

    private static void removeAndFollow(Calls calls, CellBook book) {
        calls.put(book, 3, 'a', "4");
        calls.put(book, 4, 'b', "a");
        calls.put(book, 5, 'c', "b");
        calls.due("work", book.work(20), 3);
        calls.due("type", Calls.type(book, "12"), 2);
        calls.due("remove(3)", book.remove(3), true);
        calls.due("what was typed is typed yet", Calls.type(book, "3"), 3);
        calls.shows(book, 3, CellBook.EMPTY, 0, 0);
        calls.due("uses(3)", book.uses(3), 0);
        calls.shows(book, 4, CellBook.MISSING, 0, 0);
        calls.shows(book, 5, CellBook.STALE, 0, 0);
        calls.due("remove(3) again", book.remove(3), false);
        calls.due("work on b and c", book.work(20), 2);
        calls.shows(book, 5, CellBook.BLOCKED, 0, 0);
    }

    private static void removeAStaleCell(Calls calls) {
        CellBook book = new CellBook();
        calls.put(book, 0, 'a', "+bb");
        calls.due("remove", book.remove(0), true);
        calls.shows(book, 0, CellBook.EMPTY, 0, 0);
        calls.due("uses", book.uses(0), 0);
        calls.due("an EMPTY cell is not STALE", book.work(20), 0);
    }

    private static void removeOneOfTwo(Calls calls) {
        CellBook book = new CellBook();
        calls.put(book, 0, 'a', "1");
        calls.put(book, 1, 'a', "2");
        calls.due("work", book.work(20), 2);
        calls.due("remove", book.remove(0), true);
        calls.shows(book, 1, CellBook.STALE, 0, 0);
        calls.due("work", book.work(20), 1);
        calls.shows(book, 1, CellBook.VALUE, 2, 1);
    }

    private static void removeOneOfACycle(Calls calls) {
        CellBook book = new CellBook();
        calls.put(book, 0, 'a', "b");
        calls.put(book, 1, 'b', "a");
        calls.due("work", book.work(20), 2);
        calls.due("remove", book.remove(1), true);
        calls.due("a misses b", book.status(0), CellBook.MISSING);
    }
}
