/** Promise 5: work: how often, on which cell, and what comes of it. */
public final class WorkTest {
    public static void main(String[] args) {
        Calls calls = new Calls();
        counts(calls);
        lowestFirst(calls);
        faultsAreTakenAtOnce(calls);
        aFunctionOfItself(calls);
        functionsReadCells(calls);
        blocked(calls);
        calls.end();
    }

    private static void counts(Calls calls) {
        CellBook book = new CellBook();
        for (int c = 0; c < 10; c++) {
            calls.put(book, c, (char) ('a' + c), "1");
        }
        int[] none = {-1, 21, Integer.MIN_VALUE, Integer.MAX_VALUE};
        for (int n : none) {
            calls.due("work(" + n + ")", book.work(n), -1);
        }
        calls.due("work(0)", book.work(0), 0);
        calls.due("status(0)", book.status(0), CellBook.STALE);
        calls.due("work(4)", book.work(4), 4);
        calls.due("status(3)", book.status(3), CellBook.VALUE);
        calls.due("status(4)", book.status(4), CellBook.STALE);
        calls.due("work(20)", book.work(20), 6);
        calls.due("work(20)", book.work(20), 0);
    }

    private static void lowestFirst(Calls calls) {
        CellBook book = new CellBook();
        calls.put(book, 0, 'a', "d");
        calls.put(book, 1, 'b', "1");
        calls.put(book, 2, 'c', "2");
        calls.put(book, 3, 'd', "b");
        int[] order = {1, 2, 3, 0};
        // d waits for b alone, and is taken behind c only because c is lower.
        for (int c : order) {
            calls.due("status(" + c + ") before", book.status(c), CellBook.STALE);
            calls.due("work(1)", book.work(1), 1);
            calls.due("status(" + c + ") behind", book.status(c), CellBook.VALUE);
        }
    }

    private static void faultsAreTakenAtOnce(Calls calls) {
        CellBook book = new CellBook();
        calls.put(book, 0, 'a', "+bc");
        calls.put(book, 1, 'b', "1");
        calls.due("work(1) takes a, which misses c, though b is STALE", book.work(1), 1);
        calls.due("status(1)", book.status(1), CellBook.STALE);
        calls.due("work(1)", book.work(1), 1);
        calls.due("status(1)", book.status(1), CellBook.VALUE);
        calls.due("no RUN of a", book.runs(0), 0);
    }

    private static void aFunctionOfItself(Calls calls) {
        CellBook book = new CellBook();
        calls.put(book, 0, 'a', "!f4");
        calls.put(book, 1, 'f', "\\n?<n11*n!f-n1");
        calls.due("f waits for no other", book.work(1), 1);
        calls.shows(book, 1, CellBook.FUNCTION, 0, 0);
        calls.due("work(1)", book.work(1), 1);
        calls.shows(book, 0, CellBook.VALUE, 24, 1);
    }

    private static void functionsReadCells(Calls calls) {
        CellBook book = new CellBook();
        calls.put(book, 0, 'a', "!f4");
        calls.put(book, 1, 'f', "\\n+nb");
        calls.put(book, 2, 'b', "3");
        calls.due("work", book.work(20), 3);
        calls.shows(book, 0, CellBook.VALUE, 7, 1);
        calls.put(book, 2, 'b', "5");
        calls.due("a is STALE by f", book.status(0), CellBook.STALE);
        calls.due("work", book.work(20), 3);
        calls.shows(book, 0, CellBook.VALUE, 9, 1);
        calls.put(book, 2, 'b', "<12");
        calls.due("work", book.work(20), 3);
        calls.due("f adds a BOOL", book.status(1), CellBook.TYPE);
        calls.due("a", book.status(0), CellBook.BLOCKED);
    }

    private static void blocked(Calls calls) {
        String[] texts = {"+", "d", "j", "+=111", "/10", "#01122", "!i0", "!f1"};
        int[] statuses = {CellBook.SYNTAX, CellBook.MISSING, CellBook.CYCLE, CellBook.TYPE, CellBook.DIVISION,
            CellBook.MATCH, CellBook.DEPTH, CellBook.FUEL};
        CellBook book = new CellBook();
        StatusTest.putFuelBurners(calls, book);
        calls.put(book, 0, 'a', "+1j");
        calls.put(book, 1, 'b', "?<121a");
        for (int i = 0; i < texts.length; i++) {
            calls.put(book, 9, 'j', texts[i]);
            calls.due("work is done behind " + texts[i], book.work(20) > 0, true);
            calls.due("status of " + texts[i], book.status(9), statuses[i]);
            calls.shows(book, 0, CellBook.BLOCKED, 0, 0);
            calls.shows(book, 1, CellBook.BLOCKED, 0, 0);
        }
        calls.put(book, 9, 'j', "9");
        calls.due("cancel", book.cancel(9), true);
        calls.due("work", book.work(20), 2);
        calls.due("a, which uses a CANCELLED cell", book.status(0), CellBook.BLOCKED);
        calls.due("b, which uses a BLOCKED cell", book.status(1), CellBook.BLOCKED);
        calls.put(book, 9, 'j', "\\k1");
        calls.due("work", book.work(20), 3);
        calls.due("a function is no number, but blocks nothing", book.status(0), CellBook.TYPE);
        calls.due("TYPE blocks", book.status(1), CellBook.BLOCKED);
    }
}
