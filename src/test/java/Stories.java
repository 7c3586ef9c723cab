/** Calls that bring new books to where edges are: each status there is, and states with much that could change. */
final class Stories {
    private Stories() { }

    /** Every kind of result and of being STALE at once; +1 is typed. */
    static void results(CellBook book) {
        Calls.write(book, 0, 'a', "7");
        Calls.write(book, 1, 'b', "<1a");
        Calls.write(book, 2, 'f', "\\k+ka");
        Calls.write(book, 3, 'c', "/a0");
        Calls.write(book, 4, 'd', "c");
        Calls.write(book, 5, 'e', "~a");
        Calls.write(book, 7, 'g', "!f1");
        book.cancel(7);
        book.work(20);
        Calls.write(book, 8, 'h', "i");
        Calls.write(book, 9, 'j', "!f2");
        Calls.type(book, "+1");
    }

    static final int[] RESULTS = {CellBook.VALUE, CellBook.VALUE, CellBook.FUNCTION, CellBook.DIVISION,
        CellBook.BLOCKED, CellBook.TYPE, CellBook.EMPTY, CellBook.CANCELLED, CellBook.MISSING, CellBook.STALE};

    /** Every fault at once, in cells that were worked on but for the two last ones; nothing is typed. */
    static void faults(CellBook book) {
        Calls.write(book, 0, 'a', "+");
        Calls.write(book, 1, 'b', "1");
        Calls.write(book, 2, 'b', "2");
        Calls.write(book, 3, 'c', "d");
        Calls.write(book, 4, 'd', "c");
        Calls.write(book, 5, 'e', "i");
        Calls.write(book, 6, 'f', "a");
        Calls.write(book, 7, 'g', "5");
        book.work(20);
        Calls.write(book, 8, 'h', "+");
        Calls.write(book, 9, 'j', "g");
    }

    static final int[] FAULTS = {CellBook.SYNTAX, CellBook.DUPLICATE, CellBook.DUPLICATE, CellBook.CYCLE,
        CellBook.CYCLE, CellBook.MISSING, CellBook.BLOCKED, CellBook.VALUE, CellBook.SYNTAX, CellBook.STALE};

    /** Cells 0 to 8: a is 1, b has TYPE, !f7 burns the fuel and !i7 goes too deep; cell 9, which is j, is 7. */
    static void sevenInCellNine(CellBook book) {
        Calls.write(book, 0, 'a', "1");
        Calls.write(book, 1, 'b', "~1");
        Calls.write(book, 4, 'e', "\\k+*kk+*kk+*kk+*kk*kk");
        Calls.write(book, 5, 'f', "\\k+!gk+!gk+!gk+!gk!gk");
        Calls.write(book, 6, 'g', "\\k+!hk+!hk+!hk+!hk!hk");
        Calls.write(book, 7, 'h', "\\k+!ek+!ek+!ek+!ek!ek");
        Calls.write(book, 8, 'i', "\\k!ik");
        Calls.write(book, 9, 'j', "7");
        book.work(20);
    }

    /** By status: the text of cell 9 that comes to it, and what it uses, runs more and costs in steps. */
    private static final String[] TEXTS = {"7", "+aa1", "7", "+ac", "j", "b", "~a", "/70", "#7112a", "!i7", "!f7",
        "7", "+7a", "\\k7", "+a8"};
    private static final int[] USES = {0, 0, 0, 5, 512, 2, 1, 0, 1, 256, 32, 0, 1, 0, 1};
    private static final int[] RUNS = {0, 0, 0, 0, 0, 0, 0, 1, 1, 1, 1, 0, 0, 0, 1};
    private static final int[] STEPS = {0, 0, 0, 0, 0, 0, 0, 3, 2, 12, 2000, 0, 0, 0, 3};
    private static final int STEPS_BEFORE = 2;

    /** A book of which cell 9 had the value 7 and has the status now. */
    static CellBook withCellNineAt(int status) {
        CellBook book = new CellBook();
        sevenInCellNine(book);
        bringCellNineTo(book, status);
        return book;
    }

    static void bringCellNineTo(CellBook book, int status) {
        if (status == CellBook.EMPTY) {
            book.remove(9);
            return;
        }
        Calls.write(book, 9, 'j', TEXTS[status]);
        if (status == CellBook.DUPLICATE) {
            Calls.write(book, 0, 'j', "1");
        } else if (status == CellBook.CANCELLED) {
            book.cancel(9);
        } else if (status != CellBook.STALE) {
            book.work(20);
        }
    }

    static int usesAt(int status) {
        return USES[status];
    }

    static int runsAt(int status) {
        return 1 + RUNS[status];
    }

    static int stepsAt(int status) {
        return STEPS_BEFORE + STEPS[status];
    }
}
