/** The edges of the FAULTS (promise 7). */
public final class FaultEdgesTest {
    public static void main(String[] args) {
        Calls calls = new Calls();
        syntaxUsesNothing(calls);
        syntaxIsFirst(calls);
        duplicateIsSecond(calls);
        missingIsThird(calls);
        twoAndTenOfAName(calls);
        everyNameMaySeemMissing(calls);
        cyclesOfEveryLength(calls);
        straightToItself(calls);
        roundToItself(calls);
        waysThroughFaults(calls);
        byTheTextsAlone(calls);
        calls.end();
    }

    private static void isAt(Calls calls, CellBook book, int c, int status, String why) {
        calls.due("status(" + c + "), " + why, book.status(c), status);
    }

    /** "SYNTAX, its text is not as said (a cell with it uses nothing)". */
    private static void syntaxUsesNothing(Calls calls) {
        CellBook book = new CellBook();
        calls.put(book, 0, 'a', "+bb1");
        isAt(calls, book, 0, CellBook.SYNTAX, "not MISSING");
        calls.due("uses(0)", book.uses(0), 0);
        calls.put(book, 1, 'b', "a");
        isAt(calls, book, 1, CellBook.STALE, "not CYCLE: there is no way back from a");
        calls.due("work", book.work(20), 2);
        isAt(calls, book, 1, CellBook.BLOCKED, "a defines its name and has a fault");
        calls.put(book, 1, 'b', "1");
        calls.due("b alone is STALE, as a uses nothing", book.work(20), 1);
    }

    /** "it has the first of these": SYNTAX before each other one. */
    private static void syntaxIsFirst(Calls calls) {
        CellBook book = new CellBook();
        calls.put(book, 0, 'a', "+a");
        isAt(calls, book, 0, CellBook.SYNTAX, "before CYCLE");
        calls.put(book, 0, 'a', "+b");
        isAt(calls, book, 0, CellBook.SYNTAX, "before MISSING");
        calls.put(book, 1, 'a', "1");
        isAt(calls, book, 0, CellBook.SYNTAX, "before DUPLICATE");
        isAt(calls, book, 1, CellBook.DUPLICATE, "a cell with SYNTAX defines its name, too");
        calls.put(book, 1, 'a', "+");
        isAt(calls, book, 0, CellBook.SYNTAX, "in both");
        isAt(calls, book, 1, CellBook.SYNTAX, "in both");
    }

    /** "DUPLICATE, another cell defines its name, too". */
    private static void duplicateIsSecond(Calls calls) {
        CellBook book = new CellBook();
        calls.put(book, 0, 'a', "b");
        calls.put(book, 1, 'a', "a");
        isAt(calls, book, 0, CellBook.DUPLICATE, "before MISSING");
        isAt(calls, book, 1, CellBook.DUPLICATE, "before CYCLE");
        calls.put(book, 1, 'b', "a");
        isAt(calls, book, 0, CellBook.CYCLE, "no DUPLICATE any more");
        isAt(calls, book, 1, CellBook.CYCLE, "no DUPLICATE any more");
        calls.put(book, 1, 'a', "\\k!ak");
        isAt(calls, book, 1, CellBook.DUPLICATE, "a function, too");
        calls.due("remove", book.remove(0), true);
        isAt(calls, book, 1, CellBook.STALE, "alone again");
    }

    /** "MISSING, it uses a name that no cell defines". */
    private static void missingIsThird(Calls calls) {
        CellBook book = new CellBook();
        calls.put(book, 0, 'a', "+ab");
        isAt(calls, book, 0, CellBook.MISSING, "before CYCLE");
        calls.put(book, 1, 'b', "+");
        isAt(calls, book, 0, CellBook.CYCLE, "b is defined, though it has SYNTAX");
        calls.put(book, 0, 'a', "b");
        isAt(calls, book, 0, CellBook.STALE, "no fault");
        calls.due("remove", book.remove(1), true);
        isAt(calls, book, 0, CellBook.MISSING, "b is gone");
        calls.put(book, 1, 'c', "1");
        isAt(calls, book, 0, CellBook.MISSING, "c is not b");
        calls.put(book, 1, 'b', "c");
        isAt(calls, book, 0, CellBook.STALE, "b is defined, though it is MISSING");
        isAt(calls, book, 1, CellBook.MISSING, "c");
        calls.put(book, 2, 'b', "1");
        isAt(calls, book, 0, CellBook.STALE, "b is defined twice");
    }

    private static void twoAndTenOfAName(Calls calls) {
        for (int one = 0; one < 10; one++) {
            for (int other = one + 1; other < 10; other++) {
                CellBook book = new CellBook();
                calls.put(book, other, 'e', "1");
                isAt(calls, book, other, CellBook.STALE, "alone");
                calls.put(book, one, 'e', "1");
                isAt(calls, book, one, CellBook.DUPLICATE, "with " + other);
                isAt(calls, book, other, CellBook.DUPLICATE, "with " + one);
                calls.put(book, one, 'f', "1");
                isAt(calls, book, one, CellBook.STALE, "alone again");
                isAt(calls, book, other, CellBook.STALE, "alone again");
            }
        }
        CellBook book = new CellBook();
        for (int c = 0; c < 10; c++) {
            calls.put(book, c, 'j', "1");
        }
        for (int c = 0; c < 9; c++) {
            isAt(calls, book, 9, CellBook.DUPLICATE, "with others from " + c);
            calls.due("remove(" + c + ")", book.remove(c), true);
        }
        isAt(calls, book, 9, CellBook.STALE, "the last of ten");
    }

    private static void everyNameMaySeemMissing(Calls calls) {
        for (char name = 'a'; name <= 'j'; name++) {
            char own = name == 'a' ? 'b' : 'a';
            CellBook book = new CellBook();
            calls.put(book, 0, own, "+1" + name);
            isAt(calls, book, 0, CellBook.MISSING, "" + name);
            calls.put(book, 0, own, "!" + name + "1");
            isAt(calls, book, 0, CellBook.MISSING, "!" + name);
            calls.put(book, 0, own, "\\k?=kk1" + name);
            isAt(calls, book, 0, CellBook.MISSING, name + " where it is not evaluated");
            calls.put(book, 9, name, "1");
            isAt(calls, book, 0, CellBook.STALE, name + " is there");
        }
    }

    /** "CYCLE, there is a way from it to itself". */
    private static void cyclesOfEveryLength(Calls calls) {
        int[] steps = {1, 3, 7, 9};
        for (int length = 1; length <= 10; length++) {
            for (int step : steps) {
                CellBook book = new CellBook();
                putRing(calls, book, length, step);
                for (int i = 0; i < length; i++) {
                    isAt(calls, book, i * step % 10, CellBook.CYCLE, "in a ring of " + length);
                }
                calls.put(book, 0, 'a', "1");
                for (int i = 0; i < length; i++) {
                    isAt(calls, book, i * step % 10, CellBook.STALE, "the ring of " + length + " is open");
                }
            }
        }
    }

    /** Cell 0 is a; the others lie over the cells in steps, so that ways lead up and down. */
    private static void putRing(Calls calls, CellBook book, int length, int step) {
        for (int i = 0; i < length; i++) {
            char next = (char) ('a' + (i + 1) % length);
            calls.put(book, i * step % 10, (char) ('a' + i), "" + next);
        }
    }

    /** "(but not straight from a function to itself)". */
    private static void straightToItself(Calls calls) {
        CellBook book = new CellBook();
        String[] free = {"\\k!ak", "\\k?<k11!a-k1", "\\ka", "\\k+!aka"};
        for (String text : free) {
            calls.put(book, 0, 'a', text);
            isAt(calls, book, 0, CellBook.STALE, text);
        }
        String[] bound = {"a", "!a1", "+1a", "$k1a", "$k1!ak", "?<12a1"};
        for (String text : bound) {
            calls.put(book, 0, 'a', text);
            isAt(calls, book, 0, CellBook.CYCLE, text);
        }
    }

    private static void roundToItself(Calls calls) {
        CellBook book = new CellBook();
        calls.put(book, 0, 'a', "\\k+!ak!bk");
        calls.put(book, 1, 'b', "\\k!ak");
        isAt(calls, book, 0, CellBook.CYCLE, "a function, round by another");
        isAt(calls, book, 1, CellBook.CYCLE, "a function, round by another");
        calls.put(book, 1, 'b', "!a1");
        isAt(calls, book, 0, CellBook.CYCLE, "round by a cell that is no function");
        isAt(calls, book, 1, CellBook.CYCLE, "no function itself");
        calls.put(book, 1, 'b', "\\k!bk");
        isAt(calls, book, 0, CellBook.STALE, "a way to a function of itself");
        isAt(calls, book, 1, CellBook.STALE, "a function of itself");
        calls.put(book, 2, 'c', "d");
        calls.put(book, 3, 'd', "d");
        isAt(calls, book, 2, CellBook.STALE, "a way to a ring is no ring");
        isAt(calls, book, 3, CellBook.CYCLE, "the ring");
        calls.due("work", book.work(20), 4);
        isAt(calls, book, 2, CellBook.BLOCKED, "a way to a ring");
        isAt(calls, book, 0, CellBook.FUNCTION, "a");
    }

    /** "from each cell without SYNTAX to those that define what it uses": also where they have other faults. */
    private static void waysThroughFaults(Calls calls) {
        CellBook book = new CellBook();
        calls.put(book, 0, 'a', "b");
        calls.put(book, 1, 'b', "1");
        isAt(calls, book, 0, CellBook.STALE, "no way back");
        calls.put(book, 9, 'b', "a");
        isAt(calls, book, 0, CellBook.CYCLE, "by the second cell that defines b");
        calls.put(book, 1, 'b', "a");
        calls.put(book, 9, 'b', "1");
        isAt(calls, book, 0, CellBook.CYCLE, "by the first cell that defines b");
        calls.put(book, 9, 'b', "+a");
        isAt(calls, book, 0, CellBook.CYCLE, "by the first, the other has SYNTAX");
        calls.put(book, 1, 'b', "1");
        isAt(calls, book, 0, CellBook.STALE, "there is no way from a cell with SYNTAX");
        calls.due("remove", book.remove(9), true);
        calls.put(book, 1, 'b', "+ac");
        isAt(calls, book, 1, CellBook.MISSING, "c");
        isAt(calls, book, 0, CellBook.CYCLE, "by a cell with MISSING");
        twoFunctionsOfAName(calls);
    }

    /** The way from one to the other of the same name is not straight to itself. */
    private static void twoFunctionsOfAName(Calls calls) {
        CellBook book = new CellBook();
        calls.put(book, 0, 'a', "\\k!ak");
        calls.put(book, 1, 'a', "\\k!bk");
        calls.put(book, 2, 'b', "\\k!ak");
        isAt(calls, book, 0, CellBook.DUPLICATE, "a");
        isAt(calls, book, 2, CellBook.CYCLE, "b, by one of the two");
        calls.put(book, 1, 'a', "\\kk");
        isAt(calls, book, 2, CellBook.STALE, "b, no way back");
    }

    /** "FAULTS of a cell that isn't EMPTY, by the texts alone": not by what was worked out, and at once. */
    private static void byTheTextsAlone(Calls calls) {
        CellBook book = new CellBook();
        calls.put(book, 0, 'a', "?<12b1");
        calls.put(book, 1, 'b', "?<211a");
        isAt(calls, book, 0, CellBook.CYCLE, "though an evaluation would end");
        calls.due("work", book.work(20), 2);
        isAt(calls, book, 0, CellBook.CYCLE, "behind work, too");
        calls.due("remove", book.remove(1), true);
        isAt(calls, book, 0, CellBook.MISSING, "at once");
        calls.put(book, 0, 'a', "1");
        isAt(calls, book, 0, CellBook.STALE, "at once");
        calls.due("remove", book.remove(0), true);
        isAt(calls, book, 0, CellBook.EMPTY, "an EMPTY cell has none");
    }
}
