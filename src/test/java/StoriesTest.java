/** What the tests of the edges rest on: the stories come where they say. */
public final class StoriesTest {
    public static void main(String[] args) {
        Calls calls = new Calls();
        CellBook results = new CellBook();
        Stories.results(results);
        CellBook faults = new CellBook();
        Stories.faults(faults);
        for (int c = 0; c < 10; c++) {
            calls.due("status(" + c + ") behind results", results.status(c), Stories.RESULTS[c]);
            calls.due("status(" + c + ") behind faults", faults.status(c), Stories.FAULTS[c]);
        }
        calls.due("+1 is typed, behind it 2", Calls.type(results, "2"), 3);
        calls.due("nothing is typed", Calls.type(faults, "2"), 1);
        calls.due("h and j are STALE, though h has a fault", faults.work(20), 2);
        CellBook seven = new CellBook();
        Stories.sevenInCellNine(seven);
        calls.shows(seven, 9, CellBook.VALUE, 7, 1);
        for (int status = CellBook.EMPTY; status <= CellBook.VALUE; status++) {
            calls.due("status(9)", Stories.withCellNineAt(status).status(9), status);
        }
        calls.end();
    }
}
