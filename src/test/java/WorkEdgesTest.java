/** The edges of promise 5, and of WORK and RUN among the terms. */
public final class WorkEdgesTest {
    public static void main(String[] args) {
        Calls calls = new Calls();
        atMostN(calls);
        from0To20(calls);
        lowestFirst(calls);
        faultsDoNotWait(calls);
        othersDoNotWait(calls);
        onlyEvaluationsAreRuns(calls);
        calls.end();
    }

    private static CellBook withStaleCells(int count) {
        CellBook book = new CellBook();
        for (int c = 0; c < count; c++) {
            Calls.write(book, c, (char) ('a' + c), "1");
        }
        return book;
    }

    private static int countAt(CellBook book, int status) {
        int count = 0;
        for (int c = 0; c < 10; c++) {
            count += book.status(c) == status ? 1 : 0;
        }
        return count;
    }

    /** "Works at most n times (0 .. 20): how many there were". */
    private static void atMostN(Calls calls) {
        for (int stale = 0; stale <= 10; stale++) {
            for (int n = 0; n <= 20; n++) {
                CellBook book = withStaleCells(stale);
                int times = Math.min(n, stale);
                calls.due("work(" + n + ") with " + stale + " STALE", book.work(n), times);
                calls.due("so many have a VALUE", countAt(book, CellBook.VALUE), times);
                calls.due("and the others are STALE", countAt(book, CellBook.STALE), stale - times);
                calls.due("steps", book.steps(), times);
                calls.due("the others at last", book.work(20), stale - times);
            }
        }
    }

    /** "-1 when n is not so". */
    private static void from0To20(Calls calls) {
        int[] wrong = {-1, 21, -2, 22, -20, 31, 32, 33, 64, 256, 257, 276, 65537, Integer.MAX_VALUE, Integer.MIN_VALUE,
            Integer.MIN_VALUE + 1, Integer.MIN_VALUE + 20};
        for (int n : wrong) {
            String call = "work(" + n + ")";
            Twins.changesNothing(calls, call, Stories::results, book -> book.work(n), -1);
            Twins.changesNothing(calls, call, Stories::faults, book -> book.work(n), -1);
            Twins.changesNothing(calls, call, book -> { }, book -> book.work(n), -1);
        }
        Twins.changesNothing(calls, "work(0)", Stories::results, book -> book.work(0), 0);
        Twins.changesNothing(calls, "work(0)", Stories::faults, book -> book.work(0), 0);
        Twins.changesNothing(calls, "work(20) with none STALE", book -> {
            Stories.faults(book);
            book.work(20);
        }, book -> book.work(20), 0);
    }

    /** "WORK takes the lowest STALE cell". */
    private static void lowestFirst(Calls calls) {
        CellBook book = withStaleCells(10);
        for (int c = 0; c < 10; c++) {
            calls.due("status(" + c + ") before", book.status(c), CellBook.STALE);
            calls.due("work(1)", book.work(1), 1);
            calls.due("status(" + c + ") behind", book.status(c), CellBook.VALUE);
        }
        calls.due("work(1) with none left", book.work(1), 0);
    }

    /** "that has a fault": it is taken though what it uses is STALE, and the others wait for it. */
    private static void faultsDoNotWait(Calls calls) {
        CellBook book = new CellBook();
        calls.put(book, 0, 'a', "b");
        calls.put(book, 1, 'b', "+cd");
        calls.put(book, 2, 'c', "1");
        calls.due("b, which has MISSING; a waits for it, b doesn't for c", book.work(1), 1);
        calls.due("c is STALE yet", book.status(2), CellBook.STALE);
        calls.due("then a, which is the lowest", book.work(1), 1);
        calls.due("a", book.status(0), CellBook.BLOCKED);
        calls.due("c is STALE yet", book.status(2), CellBook.STALE);
        calls.due("and c", book.work(20), 1);
        CellBook other = new CellBook();
        calls.put(other, 0, 'a', "b");
        calls.put(other, 1, 'c', "1");
        calls.put(other, 2, 'b', "+");
        calls.due("a waits for a cell with SYNTAX that is STALE", other.work(1), 1);
        calls.due("a", other.status(0), CellBook.STALE);
        calls.due("c is taken", other.status(1), CellBook.VALUE);
        calls.due("then b", other.work(1), 1);
        calls.due("a", other.status(0), CellBook.STALE);
        calls.due("then a", other.work(1), 1);
        calls.due("a", other.status(0), CellBook.BLOCKED);
    }

    /** "or of which no other cell that defines what it uses is STALE". */
    private static void othersDoNotWait(Calls calls) {
        CellBook book = new CellBook();
        calls.put(book, 0, 'f', "\\k?<k10!f-k1");
        calls.put(book, 1, 'a', "1");
        calls.due("a function does not wait for itself", book.work(1), 1);
        calls.due("f", book.status(0), CellBook.FUNCTION);
        calls.due("a", book.status(1), CellBook.STALE);
        CellBook chain = new CellBook();
        for (int c = 0; c < 9; c++) {
            calls.put(chain, c, (char) ('a' + c), "+1" + (char) ('b' + c));
        }
        calls.put(chain, 9, 'j', "1");
        for (int c = 9; c >= 0; c--) {
            calls.due("status(" + c + ") before", chain.status(c), CellBook.STALE);
            calls.due("work(1)", chain.work(1), 1);
            calls.shows(chain, c, CellBook.VALUE, 10 - c, 1);
        }
        oneOfTwoIsStale(calls);
    }

    private static void oneOfTwoIsStale(Calls calls) {
        CellBook book = new CellBook();
        calls.put(book, 0, 'a', "+bc");
        calls.put(book, 1, 'b', "1");
        calls.put(book, 2, 'd', "1");
        calls.put(book, 3, 'c', "1");
        int[] order = {1, 2, 3, 0};
        for (int c : order) {
            calls.due("status(" + c + ") before", book.status(c), CellBook.STALE);
            calls.due("work(1)", book.work(1), 1);
            calls.due("status(" + c + ") behind", book.status(c), CellBook.VALUE);
        }
    }

    /** "If it comes to an evaluation, this is a RUN of the cell." */
    private static void onlyEvaluationsAreRuns(Calls calls) {
        for (int status = CellBook.EMPTY; status <= CellBook.VALUE; status++) {
            CellBook book = Stories.withCellNineAt(status);
            calls.due("runs(9) at " + status, book.runs(9), Stories.runsAt(status));
            calls.due("steps() at " + status, book.steps(), Stories.stepsAt(status));
        }
    }
}
