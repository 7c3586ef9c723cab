/** The edges of promise 7 itself: what is shown before what, and which cells there are. */
public final class StatusEdgesTest {
    public static void main(String[] args) {
        Calls calls = new Calls();
        noSuchCell(calls);
        everyStatusInEveryCell(calls);
        theFaultBeforeStale(calls);
        theFaultBeforeTheResult(calls);
        staleBeforeTheResult(calls);
        questionsChangeNothing(calls);
        calls.end();
    }

    /** "The cell is EMPTY, or there is none such." */
    private static void noSuchCell(Calls calls) {
        CellBook results = new CellBook();
        CellBook faults = new CellBook();
        Stories.results(results);
        Stories.faults(faults);
        for (int c : Calls.NO_CELLS) {
            calls.due("status(" + c + ")", results.status(c), CellBook.EMPTY);
            calls.due("status(" + c + ")", faults.status(c), CellBook.EMPTY);
        }
        calls.due("status(6), which is EMPTY", results.status(6), CellBook.EMPTY);
    }

    private static void everyStatusInEveryCell(Calls calls) {
        for (int c = 0; c < 10; c++) {
            CellBook book = new CellBook();
            int other = (c + 1) % 10;
            calls.put(book, other, 'b', "1");
            int[] due = {CellBook.SYNTAX, CellBook.MISSING, CellBook.CYCLE, CellBook.TYPE, CellBook.DIVISION,
                CellBook.MATCH, CellBook.FUNCTION, CellBook.VALUE};
            String[] texts = {"++", "c", "a", "&bb", "/b0", "#b5566", "\\kb", "b"};
            for (int i = 0; i < due.length; i++) {
                calls.put(book, c, 'a', texts[i]);
                calls.due("work is done", book.work(20) > 0, true);
                calls.due("status(" + c + ") of " + texts[i], book.status(c), due[i]);
                calls.due("status(" + other + ")", book.status(other), CellBook.VALUE);
            }
        }
    }

    /** "EMPTY; its fault, if it has one; STALE; its result": in this order. */
    private static void theFaultBeforeStale(Calls calls) {
        CellBook book = new CellBook();
        calls.put(book, 0, 'a', "b");
        calls.due("MISSING before STALE", book.status(0), CellBook.MISSING);
        calls.put(book, 1, 'b', "1");
        calls.due("STALE, the fault is gone", book.status(0), CellBook.STALE);
        calls.put(book, 2, 'a', "1");
        calls.due("DUPLICATE before STALE", book.status(0), CellBook.DUPLICATE);
    }

    private static void theFaultBeforeTheResult(Calls calls) {
        int[] results = {CellBook.BLOCKED, CellBook.TYPE, CellBook.DIVISION, CellBook.MATCH, CellBook.DEPTH,
            CellBook.FUEL, CellBook.CANCELLED, CellBook.FUNCTION, CellBook.VALUE};
        for (int result : results) {
            CellBook book = Stories.withCellNineAt(result);
            calls.put(book, 3, 'j', "1");
            calls.due("DUPLICATE before " + result, book.status(9), CellBook.DUPLICATE);
            calls.due("work", book.work(20), 2);
            calls.due("DUPLICATE before " + result, book.status(9), CellBook.DUPLICATE);
            calls.due("remove", book.remove(3), true);
            calls.due("STALE then", book.status(9), CellBook.STALE);
            calls.due("work", book.work(20), 1);
            calls.due("what its text means", book.status(9),
                result == CellBook.CANCELLED ? CellBook.VALUE : result);
        }
    }

    private static void staleBeforeTheResult(Calls calls) {
        for (int status = CellBook.EMPTY; status <= CellBook.VALUE; status++) {
            CellBook book = Stories.withCellNineAt(status);
            calls.put(book, 9, 'c', "5");
            calls.due("STALE before " + status, book.status(9), CellBook.STALE);
        }
        CellBook book = Stories.withCellNineAt(CellBook.VALUE);
        calls.put(book, 0, 'a', "2");
        calls.due("STALE by what it uses", book.status(9), CellBook.STALE);
    }

    private static void questionsChangeNothing(Calls calls) {
        int[] some = {-1, 0, 3, 6, 8, 9, 10};
        for (int c : some) {
            Twins.changesNothing(calls, "the questions of " + c, Stories::results, book -> ask(book, c), 0);
            Twins.changesNothing(calls, "the questions of " + c, Stories::faults, book -> ask(book, c), 0);
        }
    }

    private static int ask(CellBook book, int c) {
        for (int i = 0; i < 3; i++) {
            book.status(c);
            book.value(c);
            book.kind(c);
            book.uses(c);
            book.runs(c);
            book.steps();
        }
        return 0;
    }
}
