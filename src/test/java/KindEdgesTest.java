/** The edges of promise 9. */
public final class KindEdgesTest {
    public static void main(String[] args) {
        Calls calls = new Calls();
        otherwise0(calls);
        intAndBool(calls);
        fromOneToTheOther(calls);
        noSuchCell(calls);
        calls.end();
    }

    /** "1 when cell c has the status VALUE and is INT, ... otherwise 0": cell 9 had a value before. */
    private static void otherwise0(Calls calls) {
        for (int status = CellBook.EMPTY; status <= CellBook.VALUE; status++) {
            CellBook book = Stories.withCellNineAt(status);
            calls.due("kind(9) at " + status, book.kind(9), status == CellBook.VALUE ? 1 : 0);
        }
        CellBook book = Stories.withCellNineAt(CellBook.VALUE);
        calls.put(book, 0, 'a', "2");
        calls.due("STALE by what it uses", book.kind(9), 0);
        calls.due("work", book.work(20), 2);
        calls.due("a VALUE again", book.kind(9), 1);
        calls.put(book, 3, 'j', "1");
        calls.due("a fault by another cell", book.kind(9), 0);
    }

    /** "2 when BOOL": whatever its value is. */
    private static void intAndBool(Calls calls) {
        CellBook book = new CellBook();
        calls.means(book, "0", CellBook.VALUE, 0, 1);
        calls.means(book, "1", CellBook.VALUE, 1, 1);
        calls.means(book, "2", CellBook.VALUE, 2, 1);
        calls.means(book, "=11", CellBook.VALUE, 1, 2);
        calls.means(book, "=12", CellBook.VALUE, 0, 2);
        calls.means(book, "?=1212", CellBook.VALUE, 2, 1);
        calls.means(book, "?=12=11=12", CellBook.VALUE, 0, 2);
        calls.means(book, "$k1k", CellBook.VALUE, 1, 1);
        calls.means(book, "$k1=kk", CellBook.VALUE, 1, 2);
    }

    private static void fromOneToTheOther(Calls calls) {
        CellBook book = new CellBook();
        calls.put(book, 0, 'a', "1");
        calls.put(book, 1, 'b', "a");
        calls.put(book, 2, 'c', "b");
        calls.due("work", book.work(20), 3);
        calls.shows(book, 2, CellBook.VALUE, 1, 1);
        calls.put(book, 0, 'a', "=11");
        calls.due("work", book.work(20), 3);
        calls.shows(book, 2, CellBook.VALUE, 1, 2);
        calls.put(book, 0, 'a', "1");
        calls.due("work", book.work(20), 3);
        calls.shows(book, 2, CellBook.VALUE, 1, 1);
    }

    private static void noSuchCell(Calls calls) {
        CellBook book = new CellBook();
        for (int c = 0; c < 10; c++) {
            calls.put(book, c, (char) ('a' + c), c % 2 == 0 ? "7" : "=11");
        }
        calls.due("work", book.work(20), 10);
        for (int c : Calls.NO_CELLS) {
            calls.due("kind(" + c + ")", book.kind(c), 0);
        }
        for (int c = 0; c < 10; c++) {
            calls.due("kind(" + c + ")", book.kind(c), 1 + c % 2);
        }
    }
}
