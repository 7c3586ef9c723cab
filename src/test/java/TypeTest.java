/** Promise 2: type. */
public final class TypeTest {
    public static void main(String[] args) {
        Calls calls = new Calls();
        lowestFirst(calls);
        wrongCounts(calls);
        wrongCharacters(calls);
        notMoreThan24(calls);
        calls.end();
    }

    private static void lowestFirst(Calls calls) {
        CellBook book = new CellBook();
        calls.due("type -9", book.type('-' | '9' << 8, 2), 2);
        calls.due("type 3", book.type('3', 1), 3);
        calls.due("set", book.set(0, 0), true);
        calls.due("work", book.work(1), 1);
        calls.shows(book, 0, CellBook.VALUE, 6, 1);
        calls.due("bytes above the n lowest do not count", book.type(0x2000L | '7', 1), 1);
        calls.due("nor do negative numbers", book.type(-1L << 8 | '7', 1), 2);
        calls.due("type +++34567, the highest byte too", Calls.type(book, "+++34567"), 10);
    }

    private static void wrongCounts(Calls calls) {
        CellBook book = new CellBook();
        long ones = 0x3131313131313131L;
        int[] counts = {0, -1, 9, 10, Integer.MIN_VALUE, Integer.MAX_VALUE};
        for (int n : counts) {
            calls.due("type(ones, " + n + ")", book.type(ones, n), -1);
        }
        calls.due("nothing was typed", book.set(0, 0), false);
        calls.due("type(ones, 8)", book.type(ones, 8), 8);
    }

    private static void wrongCharacters(Calls calls) {
        CellBook book = new CellBook();
        int[] refused = {0, 1, 9, 32, 127, 128, 177, 255};
        for (int character : refused) {
            calls.due("type " + character, book.type(character, 1), -1);
            calls.due("type 1 and " + character, book.type('1' | (long) character << 8, 2), -1);
            calls.due("type 1111111 and " + character,
                book.type(0x31313131313131L | (long) character << 56, 8), -1);
        }
        calls.due("nothing was typed", book.set(0, 0), false);
        calls.due("type 33", book.type(33, 1), 1);
        calls.due("type 126", book.type(126, 1), 2);
        calls.due("set", book.set(0, 0), true);
        calls.due("signs that no text has", book.status(0), CellBook.SYNTAX);
    }

    private static void notMoreThan24(Calls calls) {
        CellBook book = new CellBook();
        calls.due("type", Calls.type(book, "+++11+11"), 8);
        calls.due("type", Calls.type(book, "++11+11+"), 16);
        calls.due("type", Calls.type(book, "++11+1"), 22);
        calls.due("three more", Calls.type(book, "111"), -1);
        calls.due("eight more", Calls.type(book, "11111111"), -1);
        calls.due("one more", Calls.type(book, "1"), 23);
        calls.due("two more", Calls.type(book, "11"), -1);
        calls.due("the last", Calls.type(book, "2"), 24);
        calls.due("one too many", Calls.type(book, "1"), -1);
        calls.due("set", book.set(0, 0), true);
        calls.due("all 24 are its text", book.status(0), CellBook.SYNTAX);
        calls.due("behind a set nothing is typed", Calls.type(book, "12345678"), 8);
    }
}
