/** The edges of STALE among the terms (promises 3, 4, 5 and 7): which cells become so, and which do not. */
public final class StaleEdgesTest {
    public static void main(String[] args) {
        Calls calls = new Calls();
        theCellItself(calls);
        whatDefinesTheNames(calls);
        whatUsesTheNames(calls);
        whatUsesThose(calls);
        whetherStaleBeforeOrNot(calls);
        notByAnythingElse(calls);
        faultsAreStaleToo(calls);
        emptyIsNot(calls);
        calls.end();
    }

    private static void areStale(Calls calls, CellBook book, String why, int... stale) {
        int count = 0;
        for (int c = 0; c < 10; c++) {
            boolean isDue = false;
            for (int one : stale) {
                isDue |= one == c;
            }
            count += isDue ? 1 : 0;
            calls.due(why + ": cell " + c + " is STALE", book.status(c) == CellBook.STALE, isDue);
        }
        calls.due(why + ": no other is STALE behind a fault", book.work(20), count);
    }

    /** "the cell itself, if it isn't EMPTY now": with the same name and text, too. */
    private static void theCellItself(Calls calls) {
        CellBook book = new CellBook();
        for (int c = 0; c < 10; c++) {
            calls.put(book, c, (char) ('a' + c), "1");
            areStale(calls, book, "a new cell", c);
        }
        for (int c = 0; c < 10; c++) {
            calls.put(book, c, (char) ('a' + c), "1");
            areStale(calls, book, "the same again", c);
        }
    }

    /** "each cell that defines or uses one of these names": its old name and its new one. */
    private static void whatDefinesTheNames(Calls calls) {
        CellBook book = new CellBook();
        calls.put(book, 0, 'a', "1");
        calls.put(book, 1, 'a', "2");
        calls.put(book, 2, 'b', "3");
        calls.due("work", book.work(20), 3);
        calls.put(book, 0, 'c', "1");
        areStale(calls, book, "cell 1 has a, the old name", 0, 1);
        calls.put(book, 0, 'b', "1");
        calls.due("cells 0 and 2 have b, the new name", book.work(20), 2);
        calls.due("status(2)", book.status(2), CellBook.DUPLICATE);
        calls.due("remove", book.remove(0), true);
        areStale(calls, book, "cell 2 has b, the old name", 2);
    }

    private static void whatUsesTheNames(Calls calls) {
        CellBook book = new CellBook();
        calls.put(book, 0, 'a', "1");
        calls.put(book, 1, 'b', "+aa");
        calls.put(book, 2, 'c', "d");
        calls.put(book, 3, 'e', "1");
        calls.put(book, 4, 'f', "\\k+ka");
        calls.put(book, 5, 'g', "?=111a");
        calls.due("work", book.work(20), 6);
        calls.put(book, 0, 'a', "2");
        areStale(calls, book, "b, f and g use a", 0, 1, 4, 5);
        calls.put(book, 0, 'd', "2");
        calls.due("b, f and g miss a", book.status(1), CellBook.MISSING);
        calls.due("c uses d", book.status(2), CellBook.STALE);
        calls.due("e uses nothing", book.status(3), CellBook.VALUE);
        calls.due("work", book.work(20), 5);
        calls.put(book, 0, 'a', "2");
        calls.due("c misses d", book.status(2), CellBook.MISSING);
        calls.due("b uses a", book.status(1), CellBook.STALE);
        calls.due("work", book.work(20), 5);
    }

    /** "each one that uses the name of a cell that becomes STALE by this; and so on": the farthest way there is. */
    private static void whatUsesThose(Calls calls) {
        int[] steps = {1, 3, 7, 9};
        for (int step : steps) {
            CellBook book = new CellBook();
            for (int i = 0; i < 10; i++) {
                calls.put(book, i * step % 10, (char) ('a' + i), i == 0 ? "1" : "+1" + (char) ('a' + i - 1));
            }
            calls.due("work", book.work(20), 10);
            calls.put(book, 0, 'a', "2");
            areStale(calls, book, "all ten", 0, 1, 2, 3, 4, 5, 6, 7, 8, 9);
            calls.shows(book, 9 * step % 10, CellBook.VALUE, 11, 1);
            calls.put(book, 5 * step % 10, 'f', "1");
            calls.due("from the sixth on", book.work(20), 5);
        }
    }

    /** "(whether it was STALE before or not)". */
    private static void whetherStaleBeforeOrNot(Calls calls) {
        CellBook book = new CellBook();
        calls.put(book, 0, 'a', "1");
        calls.put(book, 1, 'b', "a");
        calls.put(book, 2, 'c', "b");
        calls.put(book, 3, 'd', "c");
        calls.due("cancel d, which waits for c", book.cancel(3), true);
        calls.put(book, 0, 'a', "2");
        areStale(calls, book, "d, though b and c were STALE before", 0, 1, 2, 3);
        calls.shows(book, 3, CellBook.VALUE, 2, 1);
        CellBook faulty = new CellBook();
        calls.put(faulty, 0, 'c', "+bd");
        calls.put(faulty, 1, 'a', "1");
        calls.put(faulty, 2, 'b', "a");
        calls.due("work on c alone, which misses d", faulty.work(1), 1);
        calls.put(faulty, 1, 'a', "2");
        calls.due("c is STALE again, though b was so before", faulty.work(20), 3);
    }

    private static void notByAnythingElse(Calls calls) {
        CellBook book = new CellBook();
        calls.put(book, 0, 'a', "b");
        calls.put(book, 1, 'a', "1");
        calls.put(book, 2, 'b', "1");
        calls.put(book, 3, 'c', "+a");
        calls.put(book, 4, 'd', "1");
        calls.due("work", book.work(20), 5);
        calls.put(book, 2, 'b', "2");
        calls.due("cells 2 and 0; cell 1 only has the name of cell 0, cell 3 uses nothing", book.work(20), 2);
        calls.put(book, 4, 'd', "2");
        calls.due("nobody uses d", book.work(20), 1);
        CellBook users = new CellBook();
        calls.put(users, 0, 'a', "+bc");
        calls.put(users, 1, 'b', "1");
        calls.put(users, 2, 'c', "1");
        calls.due("work", users.work(20), 3);
        calls.put(users, 0, 'a', "-bc");
        areStale(calls, users, "what a uses is not STALE by it", 0);
        calls.put(users, 1, 'b', "1");
        calls.due("cancel", users.cancel(1), true);
        areStale(calls, users, "a, and b not any more", 0);
        calls.put(users, 1, 'b', "1");
        calls.due("cancel a", users.cancel(0), true);
        calls.due("cancel b", users.cancel(1), true);
        areStale(calls, users, "nobody becomes STALE by a cancel");
    }

    private static void faultsAreStaleToo(Calls calls) {
        String[] texts = {"+", "b", "a"};
        int[] faults = {CellBook.SYNTAX, CellBook.MISSING, CellBook.CYCLE};
        for (int i = 0; i < texts.length; i++) {
            CellBook book = new CellBook();
            calls.put(book, 0, 'a', texts[i]);
            calls.due("a fault shows before STALE", book.status(0), faults[i]);
            calls.due("it is STALE", book.work(20), 1);
            calls.due("the fault stays", book.status(0), faults[i]);
            calls.due("it is not STALE any more", book.work(20), 0);
        }
    }

    /** "An EMPTY cell is not STALE." */
    private static void emptyIsNot(Calls calls) {
        CellBook book = new CellBook();
        calls.put(book, 0, 'a', "1");
        calls.put(book, 1, 'b', "a");
        calls.due("remove a STALE cell", book.remove(1), true);
        calls.due("status(1)", book.status(1), CellBook.EMPTY);
        areStale(calls, book, "a alone", 0);
        calls.put(book, 0, 'a', "2");
        areStale(calls, book, "b used a, but is EMPTY", 0);
        calls.due("remove", book.remove(0), true);
        areStale(calls, book, "both are EMPTY");
        calls.put(book, 2, 'b', "1");
        areStale(calls, book, "cell 1 was b, but is EMPTY", 2);
        calls.due("work on no cell", book.work(20), 0);
    }
}
