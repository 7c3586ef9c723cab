/** "an error FUEL when a cell's evaluation would make its 2001st" STEP. */
public final class FuelEdgesTest {
    public static void main(String[] args) {
        Calls calls = new Calls();
        lastStepsOfAValue(calls);
        lastStepsOfAnError(calls);
        eachRunHasItsOwn(calls);
        functionsCountForTheCell(calls);
        calls.end();
    }

    /** Behind it !f1 makes 1997 steps in all and is 840: j makes 13 of them, i 63, h 329, g 995 and f 1995. */
    static void putCounters(Calls calls, CellBook book) {
        calls.put(book, 5, 'f', "\\k+!gk!gk");
        calls.put(book, 6, 'g', "\\k+!hk+!hk!hk");
        calls.put(book, 7, 'h', "\\k+!ik+!ik+!ik+!ik!ik");
        calls.put(book, 8, 'i', "\\k+!jk+!jk+!jk!jk");
        calls.put(book, 9, 'j', "\\k++k+kk+k+k+kk");
        calls.due("work", book.work(20), 5);
    }

    private static void comesTo(Calls calls, CellBook book, String text, int status, int value, int steps) {
        int before = book.steps();
        int runs = book.runs(0);
        calls.put(book, 0, 'a', text);
        calls.due("work on " + text, book.work(20), 1);
        calls.due("status of " + text, book.status(0), status);
        calls.due("value of " + text, book.value(0), value);
        calls.due("steps of " + text, book.steps() - before, steps);
        calls.due("runs of " + text, book.runs(0), runs + 1);
    }

    private static void lastStepsOfAValue(Calls calls) {
        CellBook book = new CellBook();
        putCounters(calls, book);
        comesTo(calls, book, "!f1", CellBook.VALUE, 840, 1997);
        comesTo(calls, book, "+1!f1", CellBook.VALUE, 841, 1999);
        comesTo(calls, book, "+!f11", CellBook.VALUE, 841, 1999);
        comesTo(calls, book, "~<!f11", CellBook.VALUE, 1, 2000);
        comesTo(calls, book, "~<1!f1", CellBook.VALUE, 0, 2000);
        comesTo(calls, book, "?<1!f112", CellBook.FUEL, 0, 2000);
        comesTo(calls, book, "~~<!f11", CellBook.FUEL, 0, 2000);
        comesTo(calls, book, "+1+1!f1", CellBook.FUEL, 0, 2000);
        comesTo(calls, book, "+!f1+11", CellBook.FUEL, 0, 2000);
        comesTo(calls, book, "$k!f1k", CellBook.VALUE, 840, 1999);
        comesTo(calls, book, "$k!f1+kk", CellBook.FUEL, 0, 2000);
        comesTo(calls, book, "!f!f1", CellBook.FUEL, 0, 2000);
        comesTo(calls, book, "+!f1!f1", CellBook.FUEL, 0, 2000);
    }

    /** The error that comes with the last step is shown; where a step more would have brought it, FUEL is. */
    private static void lastStepsOfAnError(Calls calls) {
        CellBook book = new CellBook();
        putCounters(calls, book);
        calls.put(book, 1, 'b', "\\k!bk");
        calls.due("work", book.work(20), 1);
        comesTo(calls, book, "/!f10", CellBook.DIVISION, 0, 1999);
        comesTo(calls, book, "+/!f100", CellBook.DIVISION, 0, 2000);
        comesTo(calls, book, "++/!f1000", CellBook.FUEL, 0, 2000);
        comesTo(calls, book, "/+!f100", CellBook.FUEL, 0, 2000);
        comesTo(calls, book, "/!f1-11", CellBook.FUEL, 0, 2000);
        comesTo(calls, book, "#!f11122", CellBook.MATCH, 0, 1998);
        comesTo(calls, book, "=0#!f11122", CellBook.MATCH, 0, 2000);
        comesTo(calls, book, "~=0#!f11122", CellBook.FUEL, 0, 2000);
        comesTo(calls, book, "!b!f1", CellBook.FUEL, 0, 2000);
        comesTo(calls, book, "+!b1!f1", CellBook.DEPTH, 0, 13);
    }

    private static void eachRunHasItsOwn(Calls calls) {
        CellBook book = new CellBook();
        putCounters(calls, book);
        for (int c = 0; c < 5; c++) {
            calls.put(book, c, (char) ('a' + c), c % 2 == 0 ? "~<!f11" : "~~<!f11");
        }
        calls.due("work", book.work(20), 5);
        for (int c = 0; c < 5; c++) {
            calls.due("status(" + c + ")", book.status(c), c % 2 == 0 ? CellBook.VALUE : CellBook.FUEL);
            calls.due("runs(" + c + ")", book.runs(c), 1);
        }
        calls.due("steps()", book.steps(), 10000);
        comesTo(calls, book, "~<1!f1", CellBook.VALUE, 0, 2000);
        calls.due("steps()", book.steps(), 12000);
    }

    /** Steps of a cell that was worked on before do not count again where its name stands. */
    private static void functionsCountForTheCell(Calls calls) {
        CellBook book = new CellBook();
        putCounters(calls, book);
        calls.put(book, 1, 'b', "!f1");
        calls.put(book, 2, 'c', "+b+b+b+b+bb");
        calls.due("work", book.work(20), 2);
        calls.shows(book, 2, CellBook.VALUE, 840 * 6, 1);
        calls.due("steps()", book.steps(), 1997 + 11);
        calls.due("runs of f", book.runs(5), 0);
    }
}
