/** The edges of promise 10. */
public final class UsesEdgesTest {
    public static void main(String[] args) {
        Calls calls = new Calls();
        everyName(calls);
        allNamesAndNone(calls);
        withSyntaxNothing(calls);
        atEveryStatus(calls);
        emptyOrNoneSuch(calls);
        calls.end();
    }

    private static void uses(Calls calls, String text, int names) {
        CellBook book = new CellBook();
        calls.put(book, 0, 'a', text);
        calls.due("uses of " + text, book.uses(0), names);
        calls.due("work", book.work(1), 1);
        calls.due("uses of " + text + " behind work", book.uses(0), names);
    }

    /** "The names that cell c uses, as bits (a the lowest)". */
    private static void everyName(Calls calls) {
        for (int i = 0; i < 10; i++) {
            char name = (char) ('a' + i);
            uses(calls, "" + name, 1 << i);
            uses(calls, "!" + name + "1", 1 << i);
            uses(calls, "+" + name + name, 1 << i);
            uses(calls, "\\k+k" + name, 1 << i);
            uses(calls, "$k" + name + "k", 1 << i);
            uses(calls, "$k1" + name, 1 << i);
            uses(calls, "?=111" + name, 1 << i);
            uses(calls, "#" + name + "1122", 1 << i);
            uses(calls, "#1112" + name, 1 << i);
        }
    }

    private static void allNamesAndNone(Calls calls) {
        uses(calls, "++++ab+cd++ef+gh+ij", 1023);
        uses(calls, "!a!b!c!d!ef", 63);
        uses(calls, "+aj", 513);
        uses(calls, "5", 0);
        uses(calls, "$k1$l2+kl", 0);
        uses(calls, "\\kk", 0);
        CellBook book = new CellBook();
        calls.put(book, 0, 'a', "!f1");
        calls.put(book, 1, 'f', "\\k+kb");
        calls.put(book, 2, 'b', "c");
        calls.put(book, 3, 'c', "1");
        calls.due("work", book.work(20), 4);
        calls.due("what a function uses is its own affair", book.uses(0), 32);
        calls.due("and what a cell uses, too", book.uses(1), 2);
    }

    /** "(a cell with it uses nothing)": also what stands before the fault. */
    private static void withSyntaxNothing(Calls calls) {
        String[] texts = {"+a", "+abc", "ab", "+ak", "!a", "!ak", "\\k+al", "~~~~~~a", "\\a", "a\\kb", "?abq", "#a1b2"};
        for (String text : texts) {
            uses(calls, text, 0);
        }
        CellBook book = new CellBook();
        calls.put(book, 0, 'a', "+bc");
        calls.due("uses(0)", book.uses(0), 6);
        calls.put(book, 0, 'a', "+bc1");
        calls.due("nothing of the text before either", book.uses(0), 0);
        calls.put(book, 0, 'a', "d");
        calls.due("uses(0)", book.uses(0), 8);
    }

    private static void atEveryStatus(Calls calls) {
        for (int status = CellBook.EMPTY; status <= CellBook.VALUE; status++) {
            calls.due("uses(9) at " + status, Stories.withCellNineAt(status).uses(9), Stories.usesAt(status));
        }
    }

    /** "0 when it is EMPTY or there is none such." */
    private static void emptyOrNoneSuch(Calls calls) {
        CellBook book = new CellBook();
        for (int c = 0; c < 10; c++) {
            calls.due("uses(" + c + ") of a new book", book.uses(c), 0);
        }
        for (int c = 0; c < 10; c++) {
            calls.put(book, c, (char) ('a' + c), "+ab");
        }
        for (int c : Calls.NO_CELLS) {
            calls.due("uses(" + c + ")", book.uses(c), 0);
        }
        for (int c = 0; c < 10; c++) {
            calls.due("uses(" + c + ")", book.uses(c), 3);
            calls.due("remove(" + c + ")", book.remove(c), true);
            calls.due("uses(" + c + ") of a removed cell", book.uses(c), 0);
        }
    }
}
