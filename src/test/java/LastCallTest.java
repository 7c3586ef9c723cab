import java.util.function.Predicate;

/** "An object is used for at most 512 calls after it has been made": up to the 512th every promise holds. */
public final class LastCallTest {
    private static final int CALLS = 512;
    private static final int ROUND = 3;

    public static void main(String[] args) {
        Calls calls = new Calls();
        eachAsTheLast(calls);
        theMostRunsOfACell(calls);
        theMostSteps(calls);
        theMostEdits(calls);
        theMostRefusals(calls);
        theMostTyping(calls);
        calls.end();
    }

    /** Each call as the 512th, behind 169 rounds of three and four more; b, which is a + 1, is STALE at last. */
    private static void eachAsTheLast(Calls calls) {
        last(calls, "type", book -> book.type('1', 1) == 1);
        last(calls, "type with 9", book -> book.type('1', 9) == -1);
        last(calls, "set, nothing is typed", book -> !book.set(0, 0));
        last(calls, "remove(0)", book -> book.remove(0));
        last(calls, "remove(2)", book -> !book.remove(2));
        last(calls, "work(20)", book -> book.work(20) == 1);
        last(calls, "work(21)", book -> book.work(21) == -1);
        last(calls, "cancel(1)", book -> book.cancel(1));
        last(calls, "cancel(0)", book -> !book.cancel(0));
        last(calls, "status(0)", book -> book.status(0) == CellBook.VALUE);
        last(calls, "status(1)", book -> book.status(1) == CellBook.STALE);
        last(calls, "status(2)", book -> book.status(2) == CellBook.EMPTY);
        last(calls, "value(0)", book -> book.value(0) == 8);
        last(calls, "kind(0)", book -> book.kind(0) == 1);
        last(calls, "uses(1)", book -> book.uses(1) == 1);
        last(calls, "runs(0)", book -> book.runs(0) == 169);
        last(calls, "runs(1)", book -> book.runs(1) == 167);
        last(calls, "steps()", book -> book.steps() == 169 + 167 * 3);
    }

    private static void last(Calls calls, String call, Predicate<CellBook> isAsDue) {
        CellBook book = new CellBook();
        int made = 0;
        for (int round = 0; round < 169; round++) {
            book.type('0' + round % 10, 1);
            book.set(0, 0);
            book.work(round < 168 ? 20 : 1);
            made += ROUND;
            if (round == 0) {
                book.type('+' | 'a' << 8 | '1' << 16, 3);
                book.set(1, 1);
                book.work(0);
                book.work(0);
                made += 4;
            }
        }
        calls.due("calls before the last", made, CALLS - 1);
        calls.due(call + " as the 512th call", isAsDue.test(book), true);
    }

    private static void theMostRunsOfACell(Calls calls) {
        CellBook book = new CellBook();
        int rounds = 170;
        for (int round = 0; round < rounds; round++) {
            calls.due("type", book.type('0' + round % 10, 1), 1);
            calls.due("set", book.set(9, 9), true);
            calls.due("work", book.work(1), 1);
        }
        calls.due("runs(9)", book.runs(9), rounds);
        calls.due("steps()", book.steps(), rounds);
    }

    /** Cells 4 to 9 use up their fuel each time a becomes another. */
    private static void theMostSteps(Calls calls) {
        CellBook book = new CellBook();
        int made = 0;
        String[] functions = {"\\k+*ka+*ka+*kk+*kk*kk", "\\k+!bk+!bk+!bk+!bk!bk", "\\k+!ck+!ck+!ck+!ck!ck"};
        for (int i = 0; i < functions.length; i++) {
            calls.put(book, 1 + i, (char) ('b' + i), functions[i]);
            made += 4;
        }
        for (int c = 4; c < 10; c++) {
            calls.put(book, c, (char) ('a' + c), "+!d1+!d1+!d1+!d1!d1");
            made += 4;
        }
        int rounds = (CALLS - 2 - made) / ROUND;
        for (int round = 0; round < rounds; round++) {
            calls.due("type", book.type('1', 1), 1);
            calls.due("set", book.set(0, 0), true);
            calls.due("work", book.work(20), 10);
        }
        calls.due("steps()", book.steps(), rounds * (1 + 6 * 2000));
        calls.due("status(9)", book.status(9), CellBook.FUEL);
    }

    private static void theMostEdits(Calls calls) {
        CellBook book = new CellBook();
        for (int round = 0; round < 170; round++) {
            int c = round % 10;
            calls.due("type", book.type('7', 1), 1);
            calls.due("set", book.set(c, round * 3 % 10), true);
            calls.due("remove", book.remove(c), true);
        }
        calls.due("all are EMPTY", book.work(20), 0);
        calls.due("steps()", book.steps(), 0);
    }

    private static void theMostRefusals(Calls calls) {
        CellBook book = new CellBook();
        calls.put(book, 0, 'a', "7");
        calls.due("work", book.work(20), 1);
        for (int round = 0; round < 100; round++) {
            calls.due("type", book.type(0, 1), -1);
            calls.due("set", book.set(0, 0), false);
            calls.due("remove", book.remove(5), false);
            calls.due("work", book.work(21), -1);
            calls.due("cancel", book.cancel(0), false);
        }
        calls.shows(book, 0, CellBook.VALUE, 7, 1);
        calls.due("type", book.type('1', 1), 1);
        calls.due("set", book.set(9, 9), true);
        calls.due("work", book.work(20), 1);
        calls.due("value(9)", book.value(9), 1);
    }

    private static void theMostTyping(Calls calls) {
        CellBook book = new CellBook();
        String[] pieces = {"~=+++11+", "11++11+1", "1++11+11"};
        for (int round = 0; round < 102; round++) {
            for (int i = 0; i < pieces.length; i++) {
                calls.due("type", Calls.type(book, pieces[i]), 8 * i + 8);
            }
            calls.due("a 25th", Calls.type(book, "1"), -1);
            calls.due("set", book.set(round % 10, 0), true);
        }
        calls.due("the 511th: all are DUPLICATE", book.status(0), CellBook.DUPLICATE);
        calls.due("the 512th", book.work(20), 10);
    }
}
