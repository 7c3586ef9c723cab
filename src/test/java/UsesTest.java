/** Promise 10: uses. */
public final class UsesTest {
    public static void main(String[] args) {
        Calls calls = new Calls();
        CellBook book = new CellBook();
        for (int wrong : Calls.NO_CELLS) {
            calls.due("uses(" + wrong + ")", book.uses(wrong), 0);
        }
        calls.due("an EMPTY cell", book.uses(0), 0);
        uses(calls, book, "1", 0);
        uses(calls, book, "a", 1);
        uses(calls, book, "j", 512);
        uses(calls, book, "+ab", 3);
        uses(calls, book, "+aa", 1);
        uses(calls, book, "!c1", 4);
        uses(calls, book, "!c!da", 13);
        uses(calls, book, "\\k!ek", 16);
        uses(calls, book, "\\k+kg", 64);
        uses(calls, book, "$kh+ki", 384);
        uses(calls, book, "?a+bc#d1e2f", 63);
        uses(calls, book, "$k1$l2+kl", 0);
        uses(calls, book, "+a", 0);
        uses(calls, book, "+abc", 0);
        uses(calls, book, "+ak", 0);
        uses(calls, book, "\\ab", 0);
        uses(calls, book, "~~~~~~a", 0);
        uses(calls, book, "~~~~~a", 1);
        calls.due("remove", book.remove(0), true);
        calls.due("an EMPTY cell", book.uses(0), 0);
        calls.end();
    }

    private static void uses(Calls calls, CellBook book, String text, int names) {
        calls.put(book, 0, 'a', text);
        calls.due("uses of " + text, book.uses(0), names);
        calls.due("work", book.work(1), 1);
        calls.due("uses of " + text + " behind work", book.uses(0), names);
    }
}
