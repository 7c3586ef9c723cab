/** Promise 11: runs. */
public final class RunsTest {
    public static void main(String[] args) {
        Calls calls = new Calls();
        CellBook book = new CellBook();
        for (int wrong : Calls.NO_CELLS) {
            calls.due("runs(" + wrong + ")", book.runs(wrong), 0);
        }
        calls.put(book, 9, 'j', "1");
        calls.due("a STALE cell did not run", book.runs(9), 0);
        int runs = 0;
        // What ends in an error has run; a fault, BLOCKED, TYPE, CANCELLED and FUNCTION come without a run.
        String[] running = {"1", "/10", "#01122", "=11", "!f1"};
        String[] resting = {"+", "a", "j", "b", "~1", "\\k1", "c"};
        calls.put(book, 0, 'f', "\\k!fk");
        calls.put(book, 1, 'b', "~1");
        calls.put(book, 2, 'c', "/10");
        calls.due("work", book.work(20), 4);
        runs++;
        for (String text : running) {
            calls.put(book, 9, 'j', text);
            calls.due("work on " + text, book.work(20), 1);
            runs++;
            calls.due("runs behind " + text, book.runs(9), runs);
        }
        for (String text : resting) {
            calls.put(book, 9, 'j', text);
            calls.due("work on " + text, book.work(20), 1);
            calls.due("runs behind " + text, book.runs(9), runs);
        }
        calls.put(book, 9, 'j', "1");
        calls.due("cancel", book.cancel(9), true);
        calls.due("runs behind a cancel", book.runs(9), runs);
        calls.due("remove", book.remove(9), true);
        calls.due("runs of an EMPTY cell that ran", book.runs(9), runs);
        calls.put(book, 9, 'i', "2");
        calls.due("work", book.work(20), 1);
        calls.due("runs under another name", book.runs(9), runs + 1);
        calls.due("runs of a function", book.runs(0), 0);
        calls.due("runs of a cell with TYPE", book.runs(1), 0);
        calls.due("runs of a cell with an error", book.runs(2), 1);
        calls.end();
    }
}
