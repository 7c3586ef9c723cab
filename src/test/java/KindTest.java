/** Promise 9: kind. */
public final class KindTest {
    public static void main(String[] args) {
        Calls calls = new Calls();
        CellBook book = new CellBook();
        for (int wrong : Calls.NO_CELLS) {
            calls.due("kind(" + wrong + ")", book.kind(wrong), 0);
        }
        calls.due("an EMPTY cell", book.kind(0), 0);
        calls.put(book, 0, 'a', "1");
        calls.put(book, 1, 'b', "=11");
        calls.put(book, 2, 'c', "b");
        calls.put(book, 3, 'd', "$k1b");
        calls.put(book, 4, 'e', "?bba");
        calls.put(book, 5, 'f', "\\kk");
        calls.put(book, 6, 'g', "?~b!fa#11a2a");
        calls.put(book, 7, 'h', "/a0");
        calls.put(book, 8, 'i', "<0");
        calls.due("a STALE cell", book.kind(0), 0);
        calls.due("work", book.work(20), 9);
        int[] kinds = {1, 2, 2, 2, 0, 0, 1, 0, 0, 0};
        for (int c = 0; c < kinds.length; c++) {
            calls.due("kind(" + c + ")", book.kind(c), kinds[c]);
        }
        calls.put(book, 1, 'b', "1");
        calls.due("stale again", book.kind(2), 0);
        calls.due("work", book.work(20), 5);
        calls.due("another type", book.kind(2), 1);
        calls.put(book, 0, 'a', "2");
        calls.due("cancel", book.cancel(0), true);
        calls.due("a CANCELLED cell", book.kind(0), 0);
        calls.end();
    }
}
