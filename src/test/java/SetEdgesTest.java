/** The edges of promise 3. */
public final class SetEdgesTest {
    public static void main(String[] args) {
        Calls calls = new Calls();
        everyCellWithEveryName(calls);
        nothingIsTypedThen(calls);
        textsOf1And24(calls);
        aShorterText(calls);
        noSuchCell(calls);
        noSuchName(calls);
        nothingTyped(calls);
        fromEveryStatus(calls);
        calls.end();
    }

    /** "Cell c gets the name (0 .. 9 for a .. j)". */
    private static void everyCellWithEveryName(Calls calls) {
        for (int c = 0; c < 10; c++) {
            for (int name = 0; name < 10; name++) {
                int user = (c + 1) % 10;
                char userName = (char) ('a' + (name + 1) % 10);
                CellBook book = new CellBook();
                calls.due("type", Calls.type(book, "7"), 1);
                calls.due("set(" + c + ", " + name + ")", book.set(c, name), true);
                calls.put(book, user, userName, "" + (char) ('a' + name));
                calls.due("work", book.work(20), 2);
                calls.shows(book, c, CellBook.VALUE, 7, 1);
                calls.shows(book, user, CellBook.VALUE, 7, 1);
                for (int other = 0; other < 10; other++) {
                    boolean isSet = other == c || other == user;
                    calls.due("status(" + other + ")", book.status(other), isSet ? CellBook.VALUE : CellBook.EMPTY);
                }
            }
        }
    }

    /** "and the text that is typed; nothing is typed then". */
    private static void nothingIsTypedThen(Calls calls) {
        for (int c = 0; c < 10; c++) {
            CellBook book = new CellBook();
            calls.put(book, c, 'c', "+12");
            calls.due("set(" + c + ", 2) again", book.set(c, 2), false);
            calls.due("type", Calls.type(book, "5"), 1);
        }
        Twins.refuses(calls, "set behind a set", Stories::faults, book -> book.set(9, 9));
    }

    /** "a TEXT of 1 to 24 characters". */
    private static void textsOf1And24(Calls calls) {
        CellBook book = new CellBook();
        calls.means(book, "4", CellBook.VALUE, 4, 1);
        calls.means(book, "~=+++11+11++11+11++11+11", CellBook.VALUE, 1, 2);
        calls.means(book, "=+++11+11++11+11++11+11", CellBook.VALUE, 0, 2);
        calls.means(book, "+", CellBook.SYNTAX, 0, 0);
        calls.means(book, "~=+++11+11++11+11++11+1+", CellBook.SYNTAX, 0, 0);
    }

    private static void aShorterText(Calls calls) {
        CellBook book = new CellBook();
        calls.means(book, "-+12+34", CellBook.VALUE, -4, 1);
        calls.means(book, "-+12", CellBook.SYNTAX, 0, 0);
        calls.means(book, "-12", CellBook.VALUE, -1, 1);
        calls.means(book, "-", CellBook.SYNTAX, 0, 0);
        calls.means(book, "\\kk", CellBook.FUNCTION, 0, 0);
        calls.means(book, "\\k", CellBook.SYNTAX, 0, 0);
        calls.means(book, "k", CellBook.SYNTAX, 0, 0);
        calls.means(book, "6", CellBook.VALUE, 6, 1);
    }

    /** "False, and nothing changes, when there is no such cell". */
    private static void noSuchCell(Calls calls) {
        for (int c : Calls.NO_CELLS) {
            for (int name = 0; name < 10; name += 3) {
                int given = name;
                Twins.refuses(calls, "set(" + c + ", " + name + ")", Stories::results, book -> book.set(c, given));
            }
            Twins.refuses(calls, "set(" + c + ", " + c + ")", Stories::results, book -> book.set(c, c));
        }
    }

    /** "or name". */
    private static void noSuchName(Calls calls) {
        for (int name : Calls.NO_CELLS) {
            for (int c = 0; c < 10; c += 3) {
                int cell = c;
                Twins.refuses(calls, "set(" + c + ", " + name + ")", Stories::results, book -> book.set(cell, name));
            }
            Twins.refuses(calls, "set(6, " + name + "), an EMPTY cell", Stories::results, book -> book.set(6, name));
        }
    }

    /** "or nothing is typed". */
    private static void nothingTyped(Calls calls) {
        for (int c = 0; c < 10; c++) {
            for (int name = 0; name < 10; name++) {
                int cell = c;
                int given = name;
                String call = "set(" + c + ", " + name + ")";
                Twins.refuses(calls, call, Stories::faults, book -> book.set(cell, given));
            }
            int cell = c;
            Twins.refuses(calls, "set(" + c + ", 9) of a new book", book -> { }, book -> book.set(cell, 9));
        }
    }

    private static void fromEveryStatus(Calls calls) {
        for (int status = CellBook.EMPTY; status <= CellBook.VALUE; status++) {
            CellBook book = Stories.withCellNineAt(status);
            calls.put(book, 9, 'd', "8");
            calls.shows(book, 9, CellBook.STALE, 0, 0);
            calls.due("work is done", book.work(20) > 0, true);
            calls.shows(book, 9, CellBook.VALUE, 8, 1);
        }
    }
}
