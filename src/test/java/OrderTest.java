/** Whatever the order of edits and work, at last every cell shows what its text means. */
public final class OrderTest {
    private static final int RUNS = 1000;
    private static final int EDITS = 30;

    public static void main(String[] args) {
        Calls calls = new Calls();
        for (int run = 0; run < RUNS; run++) {
            Dice dice = new Dice(-1 - run);
            String[] texts = new String[10];
            char[] names = new char[10];
            CellBook edited = new CellBook();
            for (int i = 0; i < EDITS; i++) {
                edit(calls, dice, edited, texts, names);
            }
            edited.work(20);
            compare(calls, run, edited, writtenAtOnce(calls, texts, names));
        }
        calls.end();
    }

    private static void edit(Calls calls, Dice dice, CellBook book, String[] texts, char[] names) {
        int c = dice.next(10);
        if (dice.next(8) == 0) {
            calls.due("remove", book.remove(c), texts[c] != null);
            texts[c] = null;
        } else {
            names[c] = (char) ('a' + (dice.next(30) == 0 ? dice.next(10) : c));
            texts[c] = dice.textFor(names[c]);
            calls.put(book, c, names[c], texts[c]);
        }
        if (dice.next(4) == 0) {
            book.cancel(dice.next(10));
            // A cancelled cell shows what its text means only when it becomes STALE again.
            for (int other = 0; other < 10; other++) {
                if (book.status(other) == CellBook.CANCELLED) {
                    calls.put(book, other, names[other], texts[other]);
                }
            }
        }
        book.work(dice.next(5));
    }

    private static CellBook writtenAtOnce(Calls calls, String[] texts, char[] names) {
        CellBook book = new CellBook();
        for (int c = 9; c >= 0; c--) {
            if (texts[c] != null) {
                calls.put(book, c, names[c], texts[c]);
            }
        }
        book.work(20);
        return book;
    }

    private static void compare(Calls calls, int run, CellBook edited, CellBook atOnce) {
        for (int c = 0; c < 10; c++) {
            String where = "run " + run + ", cell " + c + ", ";
            calls.due(where + "status", edited.status(c), atOnce.status(c));
            calls.due(where + "value", edited.value(c), atOnce.value(c));
            calls.due(where + "kind", edited.kind(c), atOnce.kind(c));
            calls.due(where + "uses", edited.uses(c), atOnce.uses(c));
            calls.due(where + "is STALE no more", edited.status(c) != CellBook.STALE, true);
        }
    }
}
