/** The edges of promise 6. */
public final class CancelEdgesTest {
    public static void main(String[] args) {
        Calls calls = new Calls();
        everyCell(calls);
        onlyWhatIsStale(calls);
        onlyWithoutFault(calls);
        noSuchCell(calls);
        onlyThisCell(calls);
        calls.end();
    }

    /** "Cell c, which is STALE and has no fault, is not STALE any more, its result is CANCELLED: true." */
    private static void everyCell(Calls calls) {
        for (int c = 0; c < 10; c++) {
            CellBook book = new CellBook();
            calls.put(book, c, 'a', "7");
            calls.due("cancel(" + c + ")", book.cancel(c), true);
            calls.shows(book, c, CellBook.CANCELLED, 0, 0);
            calls.due("it is not STALE", book.work(20), 0);
            calls.shows(book, c, CellBook.CANCELLED, 0, 0);
            calls.due("no RUN", book.runs(c), 0);
            calls.due("no STEP", book.steps(), 0);
            calls.put(book, c, 'a', "8");
            calls.shows(book, c, CellBook.STALE, 0, 0);
            calls.due("work", book.work(20), 1);
            calls.shows(book, c, CellBook.VALUE, 8, 1);
        }
    }

    /** "False, and nothing changes, when it is not so": of all that cell 9 may show only STALE is so. */
    private static void onlyWhatIsStale(Calls calls) {
        for (int status = CellBook.EMPTY; status <= CellBook.VALUE; status++) {
            int shown = status;
            if (status == CellBook.STALE) {
                CellBook book = Stories.withCellNineAt(status);
                calls.due("cancel(9), which is STALE", book.cancel(9), true);
                calls.shows(book, 9, CellBook.CANCELLED, 0, 0);
                calls.due("cancel(9) again", book.cancel(9), false);
            } else {
                Twins.refuses(calls, "cancel(9) at " + status, book -> {
                    Stories.sevenInCellNine(book);
                    Stories.bringCellNineTo(book, shown);
                }, book -> book.cancel(9));
            }
        }
    }

    private static void onlyWithoutFault(Calls calls) {
        String[] texts = {"+", "b", "a", "1"};
        int[] faults = {CellBook.SYNTAX, CellBook.MISSING, CellBook.CYCLE, CellBook.DUPLICATE};
        for (int i = 0; i < texts.length; i++) {
            String text = texts[i];
            boolean isTwice = faults[i] == CellBook.DUPLICATE;
            CellBook looked = new CellBook();
            writeStale(looked, text, isTwice);
            calls.due("status(0)", looked.status(0), faults[i]);
            calls.due("it is STALE", looked.work(1), 1);
            Twins.refuses(calls, "cancel of a STALE cell with fault " + faults[i],
                book -> writeStale(book, text, isTwice), book -> book.cancel(0));
        }
        CellBook book = new CellBook();
        calls.put(book, 0, 'a', "b");
        calls.due("cancel", book.cancel(0), false);
        calls.put(book, 1, 'b', "1");
        calls.due("when the fault is gone, it is STALE", book.status(0), CellBook.STALE);
        calls.due("and may be cancelled", book.cancel(0), true);
    }

    private static void writeStale(CellBook book, String text, boolean isTwice) {
        Calls.write(book, 0, 'a', text);
        if (isTwice) {
            Calls.write(book, 1, 'a', text);
        }
    }

    private static void noSuchCell(Calls calls) {
        for (int c : Calls.NO_CELLS) {
            Twins.refuses(calls, "cancel(" + c + ")", Stories::results, book -> book.cancel(c));
            Twins.refuses(calls, "cancel(" + c + ")", Stories::faults, book -> book.cancel(c));
        }
    }

    private static void onlyThisCell(Calls calls) {
        for (int c = 0; c < 10; c++) {
            CellBook book = new CellBook();
            for (int other = 0; other < 10; other++) {
                calls.put(book, other, (char) ('a' + other), "1");
            }
            calls.due("type", Calls.type(book, "12"), 2);
            calls.due("cancel(" + c + ")", book.cancel(c), true);
            for (int other = 0; other < 10; other++) {
                calls.due("status(" + other + ")", book.status(other),
                    other == c ? CellBook.CANCELLED : CellBook.STALE);
            }
            calls.due("what is typed stays", Calls.type(book, "3"), 3);
            calls.due("work on the others", book.work(20), 9);
        }
    }
}
