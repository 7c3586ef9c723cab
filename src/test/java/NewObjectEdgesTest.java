/** The edges of promise 1. Each question is put to a book of its own, so that no call before it can hide a fault. */
public final class NewObjectEdgesTest {
    public static void main(String[] args) {
        Calls calls = new Calls();
        allCellsAreEmpty(calls);
        nothingIsTyped(calls);
        anotherBookLeavesNothing(calls);
        calls.end();
    }

    /** "All cells are EMPTY". */
    private static void allCellsAreEmpty(Calls calls) {
        for (int c = 0; c < 10; c++) {
            calls.shows(new CellBook(), c, CellBook.EMPTY, 0, 0);
            calls.due("uses(" + c + ")", new CellBook().uses(c), 0);
            calls.due("runs(" + c + ")", new CellBook().runs(c), 0);
            calls.due("cancel(" + c + ")", new CellBook().cancel(c), false);
            calls.due("remove(" + c + ")", new CellBook().remove(c), false);
        }
        calls.due("work(20), as no EMPTY cell is STALE", new CellBook().work(20), 0);
        calls.due("work(1)", new CellBook().work(1), 0);
        calls.due("steps()", new CellBook().steps(), 0);
        noNameIsDefined(calls);
    }

    private static void noNameIsDefined(Calls calls) {
        for (char name = 'a'; name <= 'j'; name++) {
            CellBook book = new CellBook();
            calls.put(book, 0, name == 'a' ? 'b' : 'a', "" + name);
            calls.due("no cell defines " + name, book.status(0), CellBook.MISSING);
        }
    }

    /** "nothing is typed". */
    private static void nothingIsTyped(Calls calls) {
        for (int c = 0; c < 10; c++) {
            calls.due("set(" + c + ", 0)", new CellBook().set(c, 0), false);
            calls.due("set(0, " + c + ")", new CellBook().set(0, c), false);
        }
        CellBook book = new CellBook();
        calls.due("the first one typed", Calls.type(book, "~=++11+1"), 8);
        calls.due("8 more", Calls.type(book, "1++11+11"), 16);
        calls.due("all 24", Calls.type(book, "++11+112"), 24);
        calls.due("set", book.set(0, 0), true);
        calls.due("signs too many, so SYNTAX", book.status(0), CellBook.SYNTAX);
        CellBook other = new CellBook();
        calls.due("type", Calls.type(other, "7"), 1);
        calls.due("set", other.set(0, 0), true);
        calls.due("work", other.work(1), 1);
        calls.shows(other, 0, CellBook.VALUE, 7, 1);
    }

    private static void anotherBookLeavesNothing(Calls calls) {
        CellBook used = new CellBook();
        Stories.results(used);
        CellBook fresh = new CellBook();
        for (int c = 0; c < 10; c++) {
            calls.shows(fresh, c, CellBook.EMPTY, 0, 0);
            calls.due("runs(" + c + ")", fresh.runs(c), 0);
        }
        calls.due("set, nothing is typed", fresh.set(0, 0), false);
        calls.due("work(20)", fresh.work(20), 0);
        calls.due("steps()", fresh.steps(), 0);
        calls.due("the used one has what it had", used.status(0), CellBook.VALUE);
        calls.due("and what was typed", Calls.type(used, "1"), 3);
    }
}
