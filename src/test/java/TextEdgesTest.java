/** The edges of what a text is (promise 7, SYNTAX): each text stands in a book of its own. */
public final class TextEdgesTest {
    private static final String PAIRS = "+-*/<=&";

    public static void main(String[] args) {
        Calls calls = new Calls();
        oneCharacter(calls);
        functionsOfALocal(calls);
        asManyExpressionsAsItSays(calls);
        atAnEndBehind24(calls);
        locals(calls);
        names(calls);
        digits(calls);
        nothingElse(calls);
        inAtMost5Others(calls);
        boundByAFunction(calls);
        boundByABinding(calls);
        calls.end();
    }

    private static void reads(Calls calls, String text, boolean isRight) {
        CellBook book = new CellBook();
        calls.put(book, 0, 'a', text);
        calls.due("SYNTAX of " + text, book.status(0) == CellBook.SYNTAX, !isRight);
    }

    private static void right(Calls calls, String... texts) {
        for (String text : texts) {
            reads(calls, text, true);
        }
    }

    private static void wrong(Calls calls, String... texts) {
        for (String text : texts) {
            reads(calls, text, false);
        }
    }

    /** "a digit 0 .. 9; a name a .. j; a local k .. p": of one character only digits and names are texts. */
    private static void oneCharacter(Calls calls) {
        for (char sign = 33; sign <= 126; sign++) {
            reads(calls, "" + sign, sign >= '0' && sign <= '9' || sign >= 'a' && sign <= 'j');
        }
    }

    /** "\", a LOCAL k .. p and an expression. */
    private static void functionsOfALocal(Calls calls) {
        for (char sign = 33; sign <= 126; sign++) {
            reads(calls, "\\" + sign + "1", sign >= 'k' && sign <= 'p');
        }
        right(calls, "\\k0", "\\ka", "\\k+kk", "\\p+pp");
        wrong(calls, "\\", "\\k", "\\kk1", "\\k+k", "\\k\\l1", "\\\\k1", "1\\k1", "+\\k11", "+1\\k1", "~\\k1", "k\\1");
    }

    /** "+" and its like and E, E; "~" and E; "?" and E, E, E; "$", a local, E, E; "!", a name and E; "#" and so on. */
    private static void asManyExpressionsAsItSays(Calls calls) {
        String[] whole = {"+12", "-12", "*12", "/12", "<12", "=12", "&12", "~1", "?123", "$k12", "!b1", "#13254"};
        for (String text : whole) {
            right(calls, text, "\\p" + text, "+" + text + text, "~" + text);
            wrong(calls, text + "1", text.substring(0, text.length() - 1), text.substring(0, 1), text + text);
        }
        wrong(calls, "12", "1+2", "12+", "1~", "#1325", "#132546", "#1325", "#132", "#13", "$k1", "$k", "!b", "?12");
    }

    /** "a TEXT of 1 to 24 characters": nothing stands behind the 24th, whatever it asks for. */
    private static void atAnEndBehind24(Calls calls) {
        String before24 = "?++11+11++11+11+++11+11";
        for (char sign = 33; sign <= 126; sign++) {
            boolean isExpression = sign >= '0' && sign <= '9' || sign >= 'a' && sign <= 'j';
            reads(calls, before24 + sign, isExpression);
        }
        String before23 = "?++11+11++11+11++1~+11";
        right(calls, before23 + "1", before23 + "~1");
        wrong(calls, before23 + "#1", before23 + "$k", before23 + "!b", before23 + "+1", before23 + "?1",
            before23 + "11");
        String before21 = "?++11+11++11+11+~+11";
        right(calls, before21 + "$k11", before21 + "?111");
        wrong(calls, before21 + "#111", before21 + "#11b", before21 + "$k1+",
            before21 + "?11~", before21 + "!b!b");
    }

    /** "$", a local. */
    private static void locals(Calls calls) {
        for (char sign = 33; sign <= 126; sign++) {
            reads(calls, "$" + sign + "12", sign >= 'k' && sign <= 'p');
        }
    }

    /** "!", a name. */
    private static void names(Calls calls) {
        for (char sign = 33; sign <= 126; sign++) {
            reads(calls, "!" + sign + "1", sign >= 'a' && sign <= 'j');
            reads(calls, "$k1!" + sign + "k", sign >= 'a' && sign <= 'j');
        }
    }

    /** "#", E, a digit, E, a digit, E. */
    private static void digits(Calls calls) {
        for (char sign = 33; sign <= 126; sign++) {
            boolean isDigit = sign >= '0' && sign <= '9';
            reads(calls, "#1" + sign + "123", isDigit);
            reads(calls, "#112" + sign + "3", isDigit);
        }
        right(calls, "#10090", "#+111+112+11", "##111111111", "#11#1111111", "#1111#11111");
        wrong(calls, "#1+11121", "#112+113", "#1a121", "#11aa1", "#1k121", "#1#11111111", "#111#1111111");
    }

    /** "Nothing else stands in a text (no blanks)". */
    private static void nothingElse(Calls calls) {
        for (char sign = 33; sign <= 126; sign++) {
            wrong(calls, "1" + sign, "+12" + sign, "\\k1" + sign);
            boolean isExpression = sign >= '0' && sign <= '9' || sign >= 'a' && sign <= 'j';
            reads(calls, "+" + sign + "1", isExpression);
            reads(calls, "+1" + sign, isExpression);
        }
    }

    /** "an expression lies in at most 5 others of its text". */
    private static void inAtMost5Others(Calls calls) {
        right(calls, "~1", "~~~~1", "~~~~~1", "\\k~~~~~1", "\\k~~~~~k");
        wrong(calls, "~~~~~~1", "~~~~~~~1", "~~~~~~a", "\\k~~~~~~1", "\\k~~~~~~k");
        String[] whole = {"+12", "-12", "*12", "/12", "<12", "=12", "&12", "~1", "?123", "$k1k", "!b1", "#13254"};
        for (String text : whole) {
            right(calls, "~~~~" + text, "\\k~~~~" + text);
            wrong(calls, "~~~~~" + text, "\\k~~~~~" + text);
        }
        for (char pair : PAIRS.toCharArray()) {
            right(calls, pair + "~~~~1~~~~1", pair + "1~~~~1", pair + "~~~~11");
            wrong(calls, pair + "~~~~~11", pair + "1~~~~~1");
        }
        right(calls, "?~~~~1~~~~1~~~~1", "#~~~~13~~~~15~~~~1", "$k~~~~1~~~~k", "!b~~~~1");
        wrong(calls, "?~~~~~111", "?1~~~~~11", "?11~~~~~1", "#~~~~~13151", "#13~~~~~151", "#1315~~~~~1", "$k~~~~~1k",
            "$k1~~~~~k", "!b~~~~~1");
        right(calls, "!b!b!b!b!b1", "$k1$k1$k1$k1$k1k", "+1+1+1+1+12", "+++++111111",
            "?1?1?1?1?1111111");
        wrong(calls, "!b!b!b!b!b!b1", "$k1$k1$k1$k1$k1$k1k", "+1+1+1+1+1+12", "++++++1111111",
            "?1?1?1?1?1?11111111");
    }

    /** "a local may stand as an expression only where it is BOUND: in the expression of a function of it". */
    private static void boundByAFunction(Calls calls) {
        for (char local = 'k'; local <= 'p'; local++) {
            for (char sign = 'k'; sign <= 'p'; sign++) {
                reads(calls, "\\" + local + sign, sign == local);
                reads(calls, "\\" + local + "+1" + sign, sign == local);
            }
            wrong(calls, "" + local, "+1" + local, "!b" + local);
        }
        right(calls, "\\k?kkk", "\\k#k1k2k", "\\k!bk", "\\k~k", "\\k$lkk");
        wrong(calls, "\\k?klk", "\\k#k1k2l", "\\k#l1k2k", "\\k!bl");
    }

    /** "and in the last E behind "$" and it". */
    private static void boundByABinding(Calls calls) {
        for (char local = 'k'; local <= 'p'; local++) {
            for (char sign = 'k'; sign <= 'p'; sign++) {
                reads(calls, "$" + local + "1" + sign, sign == local);
                reads(calls, "$" + local + sign + "1", false);
            }
        }
        right(calls, "$k1$l2+kl", "$k1$lk+kl", "$k1+$l2+klk", "$k1$kkk", "\\k$kkk", "\\k$l1+kl",
            "$k$l1l+k1", "$k$k1kk");
        wrong(calls, "+$k1kk", "+k$k1k", "$k1$l2m", "$k$l1kk", "$kk$k1k", "+$k1k$l1k", "?$k1kk1", "$k1+$l2ll",
            "$lk$k1k", "$k$l1l+kl");
    }
}
