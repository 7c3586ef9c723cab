/** The edges of promise 11. */
public final class RunsEdgesTest {
    public static void main(String[] args) {
        Calls calls = new Calls();
        whateverItHadAsItsText(calls);
        atEveryStatus(calls);
        eachCellHasItsOwn(calls);
        noSuchCell(calls);
        calls.end();
    }

    /** "How many RUNS of cell c there were, whatever it had as its text": other texts, other names, none at all. */
    private static void whateverItHadAsItsText(Calls calls) {
        CellBook book = new CellBook();
        calls.put(book, 4, 'a', "1");
        calls.due("a STALE cell", book.runs(4), 0);
        calls.due("work", book.work(20), 1);
        calls.due("runs(4)", book.runs(4), 1);
        calls.due("work with none STALE", book.work(20), 0);
        calls.due("runs(4)", book.runs(4), 1);
        calls.put(book, 4, 'a', "/10");
        calls.due("not before work", book.runs(4), 1);
        calls.due("work", book.work(20), 1);
        calls.due("runs(4)", book.runs(4), 2);
        calls.put(book, 4, 'b', "2");
        calls.due("work", book.work(20), 1);
        calls.due("under another name", book.runs(4), 3);
        calls.due("remove", book.remove(4), true);
        calls.due("of an EMPTY cell", book.runs(4), 3);
        calls.put(book, 4, 'c', "\\k1");
        calls.due("work", book.work(20), 1);
        calls.due("a function has no RUN", book.runs(4), 3);
        calls.put(book, 4, 'a', "+");
        calls.due("work", book.work(20), 1);
        calls.due("a cell with SYNTAX has no RUN", book.runs(4), 3);
        calls.put(book, 4, 'a', "1");
        calls.due("work", book.work(20), 1);
        calls.due("runs(4)", book.runs(4), 4);
    }

    private static void atEveryStatus(Calls calls) {
        for (int status = CellBook.EMPTY; status <= CellBook.VALUE; status++) {
            calls.due("runs(9) at " + status, Stories.withCellNineAt(status).runs(9), Stories.runsAt(status));
        }
    }

    private static void eachCellHasItsOwn(Calls calls) {
        CellBook book = new CellBook();
        for (int c = 0; c < 10; c++) {
            for (int i = 0; i < c; i++) {
                calls.put(book, c, 'a', "1");
                calls.due("work", book.work(20), 1);
            }
            calls.due("remove(" + c + ")", book.remove(c), c > 0);
        }
        for (int c = 0; c < 10; c++) {
            calls.due("runs(" + c + ")", book.runs(c), c);
        }
    }

    /** "0 when there is none such." */
    private static void noSuchCell(Calls calls) {
        CellBook book = new CellBook();
        for (int c = 0; c < 10; c++) {
            calls.put(book, c, (char) ('a' + c), "7");
        }
        calls.due("work", book.work(20), 10);
        for (int c : Calls.NO_CELLS) {
            calls.due("runs(" + c + ")", book.runs(c), 0);
        }
        for (int c = 0; c < 10; c++) {
            calls.due("runs(" + c + ")", book.runs(c), 1);
        }
    }
}
