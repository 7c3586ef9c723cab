/** Whatever the order of edits and work, at last every cell shows what its text means. */
public final class OrderTest {
    private static final int RUNS = 1000;
    private static final int EDITS = 30;

    public static void main(String[] args) {
        Calls calls = new Calls();
        for (int run = 0; run < RUNS; run++) {
            Dice dice = new Dice(-1 - run);
            String[] texts = new String[10];
            char[] names = new char[10];
            CellBook edited = new CellBook();
            for (int i = 0; i < EDITS; i++) {
                edit(calls, dice, edited, texts, names);
            }
            edited.work(20);
            compare(calls, run, edited, writtenAtOnce(calls, texts, names));
        }
        everyOrderOfFive(calls, new int[5], 0);
        calls.end();
    }

    /** Cells 0 to 4 are written in every order, with work(0), work(1) or work(20) behind each. */
    private static void everyOrderOfFive(Calls calls, int[] order, int known) {
        if (known == order.length) {
            for (int work = 0; work < 81; work++) {
                inOrder(calls, order, work, false);
                inOrder(calls, order, work, true);
            }
            return;
        }
        for (int c = 0; c < order.length; c++) {
            if (isNew(order, known, c)) {
                order[known] = c;
                everyOrderOfFive(calls, order, known + 1);
            }
        }
    }

    private static boolean isNew(int[] order, int known, int c) {
        for (int i = 0; i < known; i++) {
            if (order[i] == c) {
                return false;
            }
        }
        return true;
    }

    /** Other cells before make types wrong, names double and rings, while not all of the five are written. */
    private static void inOrder(Calls calls, int[] order, int work, boolean othersBefore) {
        CellBook book = new CellBook();
        if (othersBefore) {
            String[] before = {"=11", "c", "b", "\\k!fd", "+"};
            for (int c = 0; c < before.length; c++) {
                Calls.write(book, c, "abcfd".charAt(c), before[c]);
            }
            book.work(work % 5);
        }
        String[] texts = {"2", "+a1", "\\k+kb", "!f4", "<ca"};
        int amounts = work;
        for (int c : order) {
            Calls.write(book, c, "abfcd".charAt(c), texts[c]);
            book.work(amounts % 3 == 2 ? 20 : amounts % 3);
            amounts /= 3;
        }
        book.work(20);
        calls.shows(book, 0, CellBook.VALUE, 2, 1);
        calls.shows(book, 1, CellBook.VALUE, 3, 1);
        calls.shows(book, 2, CellBook.FUNCTION, 0, 0);
        calls.shows(book, 3, CellBook.VALUE, 7, 1);
        calls.shows(book, 4, CellBook.VALUE, 0, 2);
        calls.due("nothing is STALE", book.work(20), 0);
    }

    private static void edit(Calls calls, Dice dice, CellBook book, String[] texts, char[] names) {
        int c = dice.next(10);
        if (dice.next(8) == 0) {
            calls.due("remove", book.remove(c), texts[c] != null);
            texts[c] = null;
        } else {
            names[c] = (char) ('a' + (dice.next(30) == 0 ? dice.next(10) : c));
            texts[c] = dice.textFor(names[c]);
            calls.put(book, c, names[c], texts[c]);
        }
        if (dice.next(4) == 0) {
            book.cancel(dice.next(10));
            // A cancelled cell shows what its text means only when it becomes STALE again.
            for (int other = 0; other < 10; other++) {
                if (book.status(other) == CellBook.CANCELLED) {
                    calls.put(book, other, names[other], texts[other]);
                }
            }
        }
        book.work(dice.next(5));
    }

    private static CellBook writtenAtOnce(Calls calls, String[] texts, char[] names) {
        CellBook book = new CellBook();
        for (int c = 9; c >= 0; c--) {
            if (texts[c] != null) {
                calls.put(book, c, names[c], texts[c]);
            }
        }
        book.work(20);
        return book;
    }

    private static void compare(Calls calls, int run, CellBook edited, CellBook atOnce) {
        for (int c = 0; c < 10; c++) {
            String where = "run " + run + ", cell " + c + ", ";
            calls.due(where + "status", edited.status(c), atOnce.status(c));
            calls.due(where + "value", edited.value(c), atOnce.value(c));
            calls.due(where + "kind", edited.kind(c), atOnce.kind(c));
            calls.due(where + "uses", edited.uses(c), atOnce.uses(c));
            calls.due(where + "is STALE no more", edited.status(c) != CellBook.STALE, true);
        }
    }
}
