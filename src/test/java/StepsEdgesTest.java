/** The edges of promise 12. */
public final class StepsEdgesTest {
    public static void main(String[] args) {
        Calls calls = new Calls();
        inAllRuns(calls);
        atEveryStatus(calls);
        fromItsBeginning(calls);
        ofRemovedCells(calls);
        onlyByWork(calls);
        calls.end();
    }

    /** "How many STEPS were made in all runs." */
    private static void inAllRuns(Calls calls) {
        CellBook book = new CellBook();
        for (int c = 0; c < 10; c++) {
            calls.put(book, c, (char) ('a' + c), c % 2 == 0 ? "+12" : "/10");
        }
        calls.due("none before work", book.steps(), 0);
        for (int c = 0; c < 10; c++) {
            calls.due("work(1)", book.work(1), 1);
            calls.due("steps()", book.steps(), 3 * (c + 1));
        }
        calls.due("work(20)", book.work(20), 0);
        calls.due("steps()", book.steps(), 30);
    }

    private static void atEveryStatus(Calls calls) {
        for (int status = CellBook.EMPTY; status <= CellBook.VALUE; status++) {
            calls.due("steps() at " + status, Stories.withCellNineAt(status).steps(), Stories.stepsAt(status));
        }
    }

    /** "Each evaluation of an expression or a part of it, from its beginning, is a STEP". */
    private static void fromItsBeginning(Calls calls) {
        String[] texts = {"1", "+12", "~=12", "?=1212", "$k1k", "#11223", "!f1", "a", "&=12=11", "/10", "#31122"};
        int[] steps = {1, 3, 4, 5, 3, 3, 3, 1, 4, 3, 2};
        CellBook book = new CellBook();
        calls.put(book, 0, 'f', "\\kk");
        calls.put(book, 1, 'a', "+1+11");
        calls.due("work", book.work(20), 2);
        calls.due("steps of a", book.steps(), 5);
        int all = 5;
        for (int i = 0; i < texts.length; i++) {
            calls.put(book, 9, 'j', texts[i]);
            calls.due("work", book.work(20), 1);
            all += steps[i];
            calls.due("steps behind " + texts[i], book.steps(), all);
        }
    }

    private static void ofRemovedCells(Calls calls) {
        CellBook book = new CellBook();
        calls.put(book, 0, 'a', "+12");
        calls.due("work", book.work(20), 1);
        calls.due("remove", book.remove(0), true);
        calls.due("the steps were made", book.steps(), 3);
        calls.put(book, 0, 'a', "1");
        calls.due("work", book.work(20), 1);
        calls.due("steps()", book.steps(), 4);
    }

    private static void onlyByWork(Calls calls) {
        CellBook book = new CellBook();
        calls.put(book, 0, 'a', "+12");
        calls.put(book, 1, 'b', "+12");
        calls.due("steps()", book.steps(), 0);
        calls.due("cancel", book.cancel(0), true);
        calls.due("steps()", book.steps(), 0);
        calls.due("work(-1)", book.work(-1), -1);
        calls.due("work(21)", book.work(21), -1);
        calls.due("work(0)", book.work(0), 0);
        calls.due("steps()", book.steps(), 0);
        calls.due("remove", book.remove(1), true);
        calls.due("steps()", book.steps(), 0);
    }
}
