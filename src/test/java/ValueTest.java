/** Promise 8: value, and so what texts mean. */
public final class ValueTest {
    public static void main(String[] args) {
        Calls calls = new Calls();
        noSuchCell(calls);
        numbers(calls);
        truths(calls);
        choices(calls);
        bindings(calls);
        functions(calls);
        wrapping(calls);
        calls.end();
    }

    private static void isInt(Calls calls, CellBook book, String text, int value) {
        calls.means(book, text, CellBook.VALUE, value, 1);
    }

    private static void isBool(Calls calls, CellBook book, String text, int value) {
        calls.means(book, text, CellBook.VALUE, value, 2);
    }

    private static void noSuchCell(Calls calls) {
        CellBook book = new CellBook();
        for (int wrong : Calls.NO_CELLS) {
            calls.due("value(" + wrong + ")", book.value(wrong), 0);
        }
        calls.put(book, 0, 'a', "5");
        calls.due("value of a STALE cell", book.value(0), 0);
        calls.due("work", book.work(1), 1);
        calls.due("value", book.value(0), 5);
        calls.put(book, 1, 'a', "5");
        calls.due("value of a cell with a fault", book.value(0), 0);
    }

    private static void numbers(Calls calls) {
        CellBook book = new CellBook();
        isInt(calls, book, "0", 0);
        isInt(calls, book, "9", 9);
        isInt(calls, book, "+98", 17);
        isInt(calls, book, "-29", -7);
        isInt(calls, book, "*78", 56);
        isInt(calls, book, "/72", 3);
        isInt(calls, book, "/-072", -3);
        isInt(calls, book, "/7-02", -3);
        isInt(calls, book, "/09", 0);
        isInt(calls, book, "-+12*34", -9);
        isInt(calls, book, "--9/832", 5);
    }

    private static void truths(Calls calls) {
        CellBook book = new CellBook();
        isBool(calls, book, "<12", 1);
        isBool(calls, book, "<22", 0);
        isBool(calls, book, "<32", 0);
        isBool(calls, book, "<-010", 1);
        isBool(calls, book, "=22", 1);
        isBool(calls, book, "=12", 0);
        isBool(calls, book, "~=12", 1);
        isBool(calls, book, "~~=12", 0);
        isBool(calls, book, "&=11<12", 1);
        isBool(calls, book, "&=11<21", 0);
        isBool(calls, book, "&=12<12", 0);
        isBool(calls, book, "&=12=/100", 0);
    }

    private static void choices(Calls calls) {
        CellBook book = new CellBook();
        isInt(calls, book, "?<1234", 3);
        isInt(calls, book, "?<2134", 4);
        isInt(calls, book, "?<123/10", 3);
        isInt(calls, book, "?<21/104", 4);
        isBool(calls, book, "?<12=12=11", 0);
        isInt(calls, book, "#11425", 4);
        isInt(calls, book, "#21425", 5);
        isInt(calls, book, "#11415", 4);
        isInt(calls, book, "#09407", 7);
        isInt(calls, book, "#-54142/10", 4);
        isInt(calls, book, "#+111/1026", 6);
    }

    private static void bindings(Calls calls) {
        CellBook book = new CellBook();
        isInt(calls, book, "$k7k", 7);
        isInt(calls, book, "$k7+k$k1k", 8);
        isInt(calls, book, "$k7+$k1kk", 8);
        isInt(calls, book, "$k7-$k1k$l2*kl", -13);
        isInt(calls, book, "$k2$k+kk*kk", 16);
        isInt(calls, book, "$k$k3*kk-k1", 8);
        isInt(calls, book, "$o4$p5-op", -1);
        isBool(calls, book, "$k4=k4", 1);
    }

    private static void functions(Calls calls) {
        CellBook book = new CellBook();
        calls.put(book, 0, 'f', "\\k-k1");
        calls.put(book, 1, 'g', "\\l$k!fl*k!fk");
        calls.put(book, 2, 'h', "\\k?<k20+k!h-k2");
        calls.put(book, 3, 'a', "8");
        calls.put(book, 4, 'i', "\\k*ka");
        calls.due("work", book.work(20), 5);
        isInt(calls, book, "!f5", 4);
        isInt(calls, book, "!g5", 12);
        isInt(calls, book, "!h8", 20);
        isInt(calls, book, "$k9+!f1k", 9);
        isInt(calls, book, "$k9$l8+!g3*kl", 74);
        isInt(calls, book, "!f!f!fa", 5);
        isInt(calls, book, "!i!ia", 512);
    }

    private static void wrapping(Calls calls) {
        CellBook book = new CellBook();
        calls.put(book, 0, 'f', "\\k*kk");
        calls.put(book, 1, 'a', "*2!f!f8");
        calls.put(book, 2, 'b', "!f!f!f2");
        calls.put(book, 3, 'c', "*8*bb");
        calls.put(book, 4, 'd', "*8*ca");
        calls.put(book, 5, 'e', "*b*b*b/b2");
        calls.due("work", book.work(20), 6);
        calls.shows(book, 1, CellBook.VALUE, 8192, 1);
        calls.shows(book, 2, CellBook.VALUE, 256, 1);
        calls.shows(book, 3, CellBook.VALUE, 524288, 1);
        calls.shows(book, 4, CellBook.VALUE, 0, 1);
        calls.shows(book, 5, CellBook.VALUE, Integer.MIN_VALUE, 1);
        isInt(calls, book, "-e1", Integer.MAX_VALUE);
        isInt(calls, book, "+-e12", Integer.MIN_VALUE + 1);
        isInt(calls, book, "/e-01", Integer.MIN_VALUE);
        isInt(calls, book, "*e-01", Integer.MIN_VALUE);
        isInt(calls, book, "!f-e1", 1);
        isBool(calls, book, "<e-e1", 1);
        isBool(calls, book, "=e-0e", 1);
    }
}
