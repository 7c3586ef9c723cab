/** Promise 1: a new object. */
public final class NewObjectTest {
    public static void main(String[] args) {
        Calls calls = new Calls();
        CellBook book = new CellBook();
        for (int c = 0; c < 10; c++) {
            calls.shows(book, c, CellBook.EMPTY, 0, 0);
            calls.due("uses", book.uses(c), 0);
            calls.due("runs", book.runs(c), 0);
            calls.due("cancel", book.cancel(c), false);
            calls.due("remove", book.remove(c), false);
            calls.due("set, nothing is typed", book.set(c, c), false);
        }
        calls.due("steps", book.steps(), 0);
        calls.due("work", book.work(20), 0);
        calls.due("type", Calls.type(book, "1"), 1);
        twoBooksAreApart(calls);
        calls.end();
    }

    private static void twoBooksAreApart(Calls calls) {
        CellBook one = new CellBook();
        CellBook other = new CellBook();
        calls.put(one, 0, 'a', "5");
        calls.due("work on one", one.work(1), 1);
        calls.due("type on one", Calls.type(one, "12"), 2);
        calls.shows(one, 0, CellBook.VALUE, 5, 1);
        calls.shows(other, 0, CellBook.EMPTY, 0, 0);
        calls.due("steps of the other", other.steps(), 0);
        calls.due("set on the other", other.set(0, 0), false);
    }
}
