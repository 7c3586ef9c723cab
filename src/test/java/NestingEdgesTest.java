/**
 * "an expression lies in at most 5 others of its text": each sign, nested as deep as it may be in each of its E, is
 * read, typed and evaluated; one deeper it is SYNTAX.
 */
public final class NestingEdgesTest {
    public static void main(String[] args) {
        Calls calls = new Calls();
        pairs(calls);
        truths(calls);
        choices(calls);
        bindings(calls);
        functionCalls(calls);
        matches(calls);
        inFunctions(calls);
        wrongTypesAtTheBottom(calls);
        calls.end();
    }

    /** b is true, c false, f adds 1; the text stands in cell 9, which is j. */
    private static CellBook withNames(Calls calls) {
        CellBook book = new CellBook();
        calls.put(book, 1, 'b', "=11");
        calls.put(book, 2, 'c', "=12");
        calls.put(book, 5, 'f', "\\k+k1");
        calls.due("work", book.work(20), 3);
        return book;
    }

    private static void isInt(Calls calls, CellBook book, String text, int value) {
        calls.means(book, text, CellBook.VALUE, value, 1);
    }

    private static void isBool(Calls calls, CellBook book, String text, int value) {
        calls.means(book, text, CellBook.VALUE, value, 2);
    }

    private static void isTooDeep(Calls calls, CellBook book, String text) {
        calls.means(book, text, CellBook.SYNTAX, 0, 0);
    }

    private static void pairs(Calls calls) {
        CellBook book = withNames(calls);
        isInt(calls, book, "+1+2+3+4+56", 21);
        isInt(calls, book, "+++++123456", 21);
        isTooDeep(calls, book, "+1+2+3+4+5+67");
        isTooDeep(calls, book, "++++++1234567");
        isInt(calls, book, "-1-1-1-1-18", -7);
        isInt(calls, book, "-----911111", 4);
        isInt(calls, book, "*2*2*2*2*23", 96);
        isInt(calls, book, "*****322222", 96);
        isInt(calls, book, "/9/9/9/9/93", 3);
        isInt(calls, book, "/////911111", 9);
        isBool(calls, book, "~~~~=12", 0);
        isBool(calls, book, "~~~~<12", 1);
        isTooDeep(calls, book, "~~~~~<12");
    }

    private static void truths(Calls calls) {
        CellBook book = withNames(calls);
        isBool(calls, book, "~~~~~b", 0);
        isTooDeep(calls, book, "~~~~~~b");
        isBool(calls, book, "&b&b&b&b&bc", 0);
        isBool(calls, book, "&b&b&b&b&bb", 1);
        isBool(calls, book, "&&&&&bbbbbb", 1);
        isBool(calls, book, "&&&&&bbbbbc", 0);
        isTooDeep(calls, book, "&b&b&b&b&b&bb");
        isTooDeep(calls, book, "&&&&&&bbbbbbb");
    }

    private static void choices(Calls calls) {
        CellBook book = withNames(calls);
        isInt(calls, book, "?b?b?b?b?b123456", 1);
        isInt(calls, book, "?c1?c2?c3?c4?c56", 6);
        isInt(calls, book, "?????bccbcbcbc12", 2);
        isInt(calls, book, "?????bbccccbcb12", 2);
        isInt(calls, book, "?????bbcbcbcbc12", 1);
        isTooDeep(calls, book, "?b?b?b?b?b?b1234567");
        isTooDeep(calls, book, "?c1?c2?c3?c4?c5?c67");
        isTooDeep(calls, book, "??????bbcbcbcbcbc12");
    }

    private static void bindings(Calls calls) {
        CellBook book = withNames(calls);
        isInt(calls, book, "$k1$l2$m3$n4$o5k", 1);
        isInt(calls, book, "$k1$l2$m3$n4$o5o", 5);
        isInt(calls, book, "$k$k$k$k$k7kkkkk", 7);
        isTooDeep(calls, book, "$k1$l2$m3$n4$o5$p6k");
        isTooDeep(calls, book, "$k$k$k$k$k$k7kkkkkk");
    }

    private static void functionCalls(Calls calls) {
        CellBook book = withNames(calls);
        isInt(calls, book, "!f!f!f!f!f1", 6);
        isInt(calls, book, "+1+1+1+1!f1", 6);
        isTooDeep(calls, book, "!f!f!f!f!f!f1");
        isTooDeep(calls, book, "+1+1+1+1+1!f1");
    }

    /** Five "#" do not fit in 24 characters, so the outermost sign is another. */
    private static void matches(Calls calls) {
        CellBook book = withNames(calls);
        isInt(calls, book, "+1####11122112211221122", 2);
        isInt(calls, book, "+1#11#11#11#11522222222", 6);
        isInt(calls, book, "+1#1221#1221#1221#12215", 6);
        isInt(calls, book, "+1+1+1+1#11522", 9);
        isTooDeep(calls, book, "+1+1+1+1+1#11522");
        isTooDeep(calls, book, "~~~###1112211221122");
    }

    /** In a function it begins anew: the cells and the functions that call it do not count. */
    private static void inFunctions(Calls calls) {
        CellBook book = withNames(calls);
        calls.put(book, 6, 'g', "\\k+k+k+k+k+kk");
        calls.put(book, 7, 'h', "\\p!g!g!g!g!gp");
        calls.due("work", book.work(20), 2);
        isInt(calls, book, "+1+1+1+1!g1", 10);
        isInt(calls, book, "!g!g!g!g!g1", 7776);
        isInt(calls, book, "+1+1+1+1!h1", 7780);
        calls.put(book, 6, 'g', "\\k+k+k+k+k+k+kk");
        calls.due("the function itself", book.status(6), CellBook.SYNTAX);
    }

    private static void wrongTypesAtTheBottom(Calls calls) {
        CellBook book = withNames(calls);
        String[] texts = {"+1+2+3+4+5b", "+++++b23456", "~~~~~1", "&b&b&b&b&b1", "&&&&&1bbbbb", "?b?b?b?b?bc23456",
            "?c1?c2?c3?c4?c5b", "?????1bbbbbbbb12", "$k1$l2$m3$n4$o5f", "$k$k$k$k$kbkkkkk", "!f!f!f!f!fb",
            "+1####b1122112211221122", "+1#11#11#11#11b22222222", "+1#1221#1221#1221#1221b"};
        for (String text : texts) {
            calls.means(book, text, CellBook.TYPE, 0, 0);
        }
    }
}
