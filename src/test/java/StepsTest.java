/** Promise 12: steps. */
public final class StepsTest {
    private static int before = 0;

    public static void main(String[] args) {
        Calls calls = new Calls();
        eachKind(calls);
        functions(calls);
        fuel(calls);
        calls.end();
    }

    private static void costs(Calls calls, CellBook book, String text, int steps) {
        calls.put(book, 9, 'j', text);
        calls.due("work on " + text, book.work(1), 1);
        calls.due("steps of " + text, book.steps() - before, steps);
        before = book.steps();
    }

    private static void eachKind(Calls calls) {
        CellBook book = new CellBook();
        before = 0;
        costs(calls, book, "1", 1);
        costs(calls, book, "+12", 3);
        costs(calls, book, "+-12*34", 7);
        costs(calls, book, "~<12", 4);
        costs(calls, book, "&<12<12", 7);
        costs(calls, book, "&<21<12", 4);
        costs(calls, book, "?<12+345", 7);
        costs(calls, book, "?<21+345", 5);
        costs(calls, book, "$k1+kk", 5);
        costs(calls, book, "#11+122*33", 5);
        costs(calls, book, "#2112*22", 5);
        costs(calls, book, "#31122", 2);
        costs(calls, book, "+/10+12", 4);
        costs(calls, book, "$k/10+kk", 4);
        costs(calls, book, "?=1/10+11+22", 6);
        costs(calls, book, "&=1/10=11", 6);
        costs(calls, book, "#/100+1112", 4);
        costs(calls, book, "+", 0);
        costs(calls, book, "~1", 0);
        costs(calls, book, "\\k1", 0);
        costs(calls, book, "i", 0);
        calls.put(book, 9, 'j', "+12");
        calls.due("cancel", book.cancel(9), true);
        calls.due("no steps", book.steps(), before);
    }

    private static void functions(Calls calls) {
        CellBook book = new CellBook();
        before = 0;
        calls.put(book, 0, 'f', "\\k*kk");
        calls.put(book, 1, 'a', "+1+1+11");
        calls.put(book, 2, 'g', "\\k!gk");
        calls.put(book, 3, 'h', "\\k+ka");
        calls.due("work", book.work(20), 4);
        before = book.steps();
        calls.due("steps of a", before, 7);
        costs(calls, book, "a", 1);
        costs(calls, book, "!f3", 5);
        costs(calls, book, "!f!f3", 9);
        costs(calls, book, "!h1", 5);
        // ! and its E six times; what stands behind the sixth is not evaluated.
        costs(calls, book, "!g1", 12);
    }

    /** j makes 13 steps, i 63, h 329, g 995 and f 1995. */
    private static void fuel(Calls calls) {
        CellBook book = new CellBook();
        calls.put(book, 5, 'f', "\\k+!gk!gk");
        calls.put(book, 6, 'g', "\\k+!hk+!hk!hk");
        calls.put(book, 7, 'h', "\\k+!ik+!ik+!ik+!ik!ik");
        calls.put(book, 8, 'i', "\\k+!jk+!jk+!jk!jk");
        calls.put(book, 9, 'j', "\\k++k+kk+k+k+kk");
        calls.due("work", book.work(20), 5);
        String[] texts = {"!f1", "=0!f1", "~=0!f1", "~~=0!f1", "+1+1!f1", "/!f1-11"};
        int[] steps = {1997, 1999, 2000, 2000, 2000, 2000};
        int[] statuses = {CellBook.VALUE, CellBook.VALUE, CellBook.VALUE, CellBook.FUEL, CellBook.FUEL, CellBook.FUEL};
        int[] values = {840, 0, 1, 0, 0, 0};
        int all = 0;
        for (int i = 0; i < texts.length; i++) {
            calls.put(book, 0, 'a', texts[i]);
            calls.due("work on " + texts[i], book.work(20), 1);
            all += steps[i];
            calls.due("steps behind " + texts[i], book.steps(), all);
            calls.due("status of " + texts[i], book.status(0), statuses[i]);
            calls.due("value of " + texts[i], book.value(0), values[i]);
        }
        calls.put(book, 0, 'a', "1");
        calls.due("another run has all its steps", book.work(20), 1);
        calls.due("status", book.status(0), CellBook.VALUE);
        calls.due("steps", book.steps(), all + 1);
    }
}
