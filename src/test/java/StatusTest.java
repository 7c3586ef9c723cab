/** Promise 7: status: faults, and their order; results; and what shows before what. */
public final class StatusTest {
    public static void main(String[] args) {
        Calls calls = new Calls();
        noSuchCell(calls);
        syntax(calls);
        bound(calls);
        duplicate(calls);
        missing(calls);
        cycle(calls);
        types(calls);
        errors(calls);
        depth(calls);
        fuel(calls);
        calls.end();
    }

    /** Functions f to i of which !f1 makes more than 2000 steps; !i0 goes deeper than 5. */
    static void putFuelBurners(Calls calls, CellBook book) {
        calls.put(book, 5, 'f', "\\k+!gk+!gk+!gk+!gk!gk");
        calls.put(book, 6, 'g', "\\k+!hk+!hk+!hk+!hk!hk");
        calls.put(book, 7, 'h', "\\k+!ek+!ek+!ek+!ek!ek");
        calls.put(book, 4, 'e', "\\k+*kk+*kk+*kk+*kk*kk");
        calls.put(book, 8, 'i', "\\k!ik");
    }

    private static void noSuchCell(Calls calls) {
        CellBook book = new CellBook();
        for (int wrong : Calls.NO_CELLS) {
            calls.due("status(" + wrong + ")", book.status(wrong), CellBook.EMPTY);
        }
    }

    private static void statusAtOnce(Calls calls, CellBook book, String text, int status) {
        calls.put(book, 9, 'j', text);
        calls.due("status of " + text, book.status(9), status);
    }

    private static void syntax(Calls calls) {
        CellBook book = new CellBook();
        String[] wrong = {"+", "+1", "+111", "11", "~", "?", "?<12", "?<121", "!", "!f", "!1", "!1k", "!k1", "!+11",
            "#", "#1", "#11", "#111", "#1111", "#1+1111", "#1111k", "#111111", "$", "$k", "$k1", "$a11", "$111", "\\",
            "\\k", "\\a1", "\\11", "\\k11", "\\k\\k1", "+\\k11", "q", "A", "K", "|11", ">11", "%11", "@", "^11",
            "\"", "(1)", "1+1", "~~~~~~1", "+1+1+1+1+1+11", "\\k~~~~~=kk", "!f!f!f!f!f!f1"};
        for (String text : wrong) {
            statusAtOnce(calls, book, text, CellBook.SYNTAX);
        }
        String[] right = {"0", "9", "~1", "+11", "?111", "$k11", "#11111", "\\k1", "\\pp", "~~~~~1", "+1+1+1+1+11",
            "\\k~~~~=kk", "?1?1?1?1?1111111", "*/-<=111111", "&&111"};
        for (String text : right) {
            statusAtOnce(calls, book, text, CellBook.STALE);
        }
    }

    private static void bound(Calls calls) {
        CellBook book = new CellBook();
        String[] wrong = {"k", "p", "+k1", "$q1q", "\\qq", "$j11", "\\j1", "$kk1", "$k1l", "$l1k", "+$k1kk",
            "$k$l1ll", "\\kl", "\\k$ll1", "\\k+k$l1+kp", "#k1111", "$kk+k1"};
        for (String text : wrong) {
            statusAtOnce(calls, book, text, CellBook.SYNTAX);
        }
        String[] right = {"$k1k", "$p1p", "\\kk", "\\k$l1+kl", "$k1$k+kkk", "$k1+k$l2+kl", "\\k$kkk", "$k$l1+ll+kk"};
        for (String text : right) {
            statusAtOnce(calls, book, text, CellBook.STALE);
        }
    }

    private static void duplicate(Calls calls) {
        CellBook book = new CellBook();
        calls.put(book, 0, 'a', "1");
        calls.put(book, 1, 'a', "b");
        calls.due("status(0)", book.status(0), CellBook.DUPLICATE);
        calls.due("DUPLICATE before MISSING", book.status(1), CellBook.DUPLICATE);
        calls.put(book, 1, 'a', "+");
        calls.due("SYNTAX before DUPLICATE", book.status(1), CellBook.SYNTAX);
        calls.due("a cell with SYNTAX defines its name", book.status(0), CellBook.DUPLICATE);
        calls.put(book, 0, 'a', "a");
        calls.due("DUPLICATE before CYCLE", book.status(0), CellBook.DUPLICATE);
        calls.put(book, 1, 'b', "1");
        calls.due("CYCLE", book.status(0), CellBook.CYCLE);
        calls.due("STALE", book.status(1), CellBook.STALE);
    }

    private static void missing(Calls calls) {
        CellBook book = new CellBook();
        calls.put(book, 0, 'a', "+ab");
        calls.due("MISSING before CYCLE", book.status(0), CellBook.MISSING);
        calls.put(book, 1, 'c', "!d1");
        calls.due("behind ! too", book.status(1), CellBook.MISSING);
        calls.put(book, 2, 'e', "?=111f");
        calls.due("where nothing is evaluated too", book.status(2), CellBook.MISSING);
        calls.put(book, 3, 'f', "+");
        calls.due("a cell with SYNTAX defines its name", book.status(2), CellBook.STALE);
        calls.due("work", book.work(20), 4);
        calls.due("and blocks", book.status(2), CellBook.BLOCKED);
    }

    private static void cycle(Calls calls) {
        CellBook book = new CellBook();
        calls.put(book, 0, 'a', "a");
        calls.put(book, 1, 'b', "!b1");
        calls.put(book, 2, 'c', "\\k+k!ck");
        calls.put(book, 3, 'd', "\\kd");
        calls.put(book, 4, 'e', "\\k!fk");
        calls.put(book, 5, 'f', "\\k!ek");
        calls.put(book, 6, 'g', "!e1");
        calls.due("itself", book.status(0), CellBook.CYCLE);
        calls.due("itself, and no function", book.status(1), CellBook.CYCLE);
        calls.due("a function of itself", book.status(2), CellBook.STALE);
        calls.due("a function and its name without !", book.status(3), CellBook.STALE);
        calls.due("two functions", book.status(4), CellBook.CYCLE);
        calls.due("two functions", book.status(5), CellBook.CYCLE);
        calls.due("a way to a cycle is none", book.status(6), CellBook.STALE);
        calls.due("work", book.work(20), 7);
        calls.due("c", book.status(2), CellBook.FUNCTION);
        calls.due("d", book.status(3), CellBook.TYPE);
        calls.due("g", book.status(6), CellBook.BLOCKED);
        calls.put(book, 4, 'e', "\\k!");
        calls.due("there is no way from a cell with SYNTAX", book.status(5), CellBook.STALE);
        wayThroughFaults(calls);
    }

    private static void wayThroughFaults(Calls calls) {
        CellBook book = new CellBook();
        calls.put(book, 0, 'a', "b");
        calls.put(book, 1, 'b', "1");
        calls.put(book, 2, 'b', "a");
        calls.due("a way through one of two", book.status(0), CellBook.CYCLE);
        calls.put(book, 1, 'c', "1");
        calls.put(book, 2, 'b', "+ad");
        calls.due("a way through a cell with MISSING", book.status(0), CellBook.CYCLE);
        calls.due("which is MISSING itself", book.status(2), CellBook.MISSING);
        calls.put(book, 2, 'b', "+a");
        calls.due("no way through a cell with SYNTAX", book.status(0), CellBook.STALE);
    }

    private static void types(Calls calls) {
        CellBook book = new CellBook();
        calls.put(book, 0, 'a', "1");
        calls.put(book, 1, 'b', "=11");
        calls.put(book, 2, 'f', "\\k+kk");
        calls.due("work", book.work(20), 3);
        String[] wrong = {"+b1", "+1b", "-b1", "*1b", "/b1", "<1b", "<b1", "=bb", "=1b", "&1b", "&b1", "&11", "~1",
            "~a", "?111", "?b1b", "?bb1", "?b1f", "!fb", "!a1", "!b1", "f", "+1f", "#b1111", "#11b11",
            "#1111b", "$kb1", "$kbb", "$k1~k", "&~b~1", "\\kb", "\\k=kk", "\\k~k", "\\kj", "\\k?b1j", "?~b+1b1",
            "$kfk"};
        for (String text : wrong) {
            calls.means(book, text, CellBook.TYPE, 0, 0);
        }
        CellBook other = new CellBook();
        calls.put(other, 0, 'a', "1");
        calls.put(other, 1, 'b', "=11");
        calls.put(other, 2, 'f', "\\k+kk");
        calls.due("work", other.work(20), 3);
        calls.means(other, "$k1b", CellBook.VALUE, 1, 2);
        calls.means(other, "?b~bb", CellBook.VALUE, 0, 2);
        calls.means(other, "?b!fa1", CellBook.VALUE, 2, 1);
        calls.means(other, "\\k?b!jk1", CellBook.FUNCTION, 0, 0);
        calls.means(other, "\\k$l1k", CellBook.FUNCTION, 0, 0);
    }

    private static void errors(Calls calls) {
        CellBook book = new CellBook();
        calls.means(book, "/10", CellBook.DIVISION, 0, 0);
        calls.means(book, "/1-33", CellBook.DIVISION, 0, 0);
        calls.means(book, "/#011220", CellBook.MATCH, 0, 0);
        calls.means(book, "+/10#01122", CellBook.DIVISION, 0, 0);
        calls.means(book, "+#01122/10", CellBook.MATCH, 0, 0);
        calls.means(book, "#31122", CellBook.MATCH, 0, 0);
        calls.means(book, "#-011122", CellBook.MATCH, 0, 0);
        calls.means(book, "#/101122", CellBook.DIVISION, 0, 0);
        calls.means(book, "~=1/10", CellBook.DIVISION, 0, 0);
        calls.means(book, "$k/105", CellBook.DIVISION, 0, 0);
        calls.means(book, "$k5/k0", CellBook.DIVISION, 0, 0);
        calls.means(book, "?=1/1011", CellBook.DIVISION, 0, 0);
        calls.means(book, "?=11/101", CellBook.DIVISION, 0, 0);
        calls.means(book, "?=121/10", CellBook.DIVISION, 0, 0);
        calls.means(book, "&=11=1/10", CellBook.DIVISION, 0, 0);
        calls.means(book, "&=1/10=11", CellBook.DIVISION, 0, 0);
        calls.means(book, "\\k/k0", CellBook.FUNCTION, 0, 0);
    }

    private static void depth(Calls calls) {
        CellBook book = new CellBook();
        calls.put(book, 0, 'f', "\\k?<k10!f-k1");
        calls.put(book, 1, 'g', "\\k!g/k0");
        calls.put(book, 2, 'h', "\\k!hk");
        calls.due("work", book.work(20), 3);
        calls.means(book, "!f4", CellBook.VALUE, 0, 1);
        calls.means(book, "!f5", CellBook.DEPTH, 0, 0);
        calls.means(book, "!f!f!f!f4", CellBook.VALUE, 0, 1);
        calls.means(book, "+!f4!f4", CellBook.VALUE, 0, 1);
        calls.means(book, "!g1", CellBook.DIVISION, 0, 0);
        calls.means(book, "!h1", CellBook.DEPTH, 0, 0);
        CellBook other = new CellBook();
        calls.put(other, 0, 'a', "\\k!bk");
        calls.put(other, 1, 'b', "\\k!ck");
        calls.put(other, 2, 'c', "\\k!dk");
        calls.put(other, 3, 'd', "\\k!ek");
        calls.put(other, 4, 'e', "\\k!f/k0");
        calls.put(other, 5, 'f', "\\kk");
        calls.due("work", other.work(20), 6);
        calls.means(other, "!a1", CellBook.DIVISION, 0, 0);
        calls.means(other, "!b1", CellBook.DIVISION, 0, 0);
        calls.put(other, 4, 'e', "\\k!fk");
        calls.due("work", other.work(20), 6);
        calls.means(other, "!a1", CellBook.DEPTH, 0, 0);
        calls.means(other, "!b7", CellBook.VALUE, 7, 1);
    }

    private static void fuel(Calls calls) {
        CellBook book = new CellBook();
        putFuelBurners(calls, book);
        calls.due("work", book.work(20), 5);
        calls.means(book, "!f1", CellBook.FUEL, 0, 0);
        calls.means(book, "?=1!f111", CellBook.FUEL, 0, 0);
        calls.means(book, "!h2", CellBook.VALUE, 100, 1);
    }
}
