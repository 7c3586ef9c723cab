/** Makes calls, and prints each whose answer is not the one that is due. */
final class Calls {
    /** Numbers of no cell and of no name: the next ones, and those of which a part of the bits would be one. */
    static final int[] NO_CELLS = {-1, 10, -2, 11, 15, 16, 31, 32, 41, -9, -10, -16, -32, 256, 265, -256, 65536,
        1 << 30, Integer.MAX_VALUE, Integer.MIN_VALUE, Integer.MIN_VALUE + 9};

    private int made = 0;
    private int wrong = 0;

    void due(String call, long got, long want) {
        made++;
        if (got != want) {
            wrong++;
            System.out.println(call + " answered " + got + ", due is " + want);
        }
    }

    void due(String call, boolean got, boolean want) {
        due(call, got ? 1 : 0, want ? 1 : 0);
    }

    /** Types up to eight characters in one call. */
    static int type(CellBook book, String piece) {
        long characters = 0;
        for (int i = 0; i < piece.length(); i++) {
            characters |= (long) piece.charAt(i) << 8 * i;
        }
        return book.type(characters, piece.length());
    }

    /** Types a text and sets a cell to it, without a look at the answers. */
    static void write(CellBook book, int c, char name, String text) {
        for (int from = 0; from < text.length(); from += 8) {
            type(book, text.substring(from, Math.min(from + 8, text.length())));
        }
        book.set(c, name - 'a');
    }

    /** Types a text and sets a cell to it. */
    void put(CellBook book, int c, char name, String text) {
        for (int from = 0; from < text.length(); from += 8) {
            int to = Math.min(from + 8, text.length());
            due("type " + text.substring(from, to), type(book, text.substring(from, to)), to);
        }
        due("set(" + c + ", " + name + ") to " + text, book.set(c, name - 'a'), true);
    }

    /** What a cell shows, whole. */
    void shows(CellBook book, int c, int status, int value, int kind) {
        due("status(" + c + ")", book.status(c), status);
        due("value(" + c + ")", book.value(c), value);
        due("kind(" + c + ")", book.kind(c), kind);
    }

    /** What a text comes to in cell 9, as j, of a book that has nothing else to work on. */
    void means(CellBook book, String text, int status, int value, int kind) {
        put(book, 9, 'j', text);
        due("work(1) on " + text, book.work(1), 1);
        due("status of " + text, book.status(9), status);
        due("value of " + text, book.value(9), value);
        due("kind of " + text, book.kind(9), kind);
    }

    void end() {
        System.out.println(made + " answers, " + wrong + " not as due");
        if (wrong != 0 || made == 0) {
            System.exit(1);
        }
    }
}
