/** The edges of promise 2. */
public final class TypeEdgesTest {
    private static final long ONES = 0x3131313131313131L;

    public static void main(String[] args) {
        Calls calls = new Calls();
        lowestBytesLowestFirst(calls);
        behindWhatIsTyped(calls);
        countsFrom1To8(calls);
        charactersFrom33To126(calls);
        aWrongOneAnywhere(calls);
        atMost24(calls);
        calls.end();
    }

    /** "Types the n lowest bytes of a number, the lowest first". */
    private static void lowestBytesLowestFirst(Calls calls) {
        comesTo(calls, "7", "", 7);
        comesTo(calls, "7", "8", 7);
        comesTo(calls, "-93", "", 6);
        comesTo(calls, "-93", "+1111", 6);
        comesTo(calls, "?<12-93", "7", 0);
        comesTo(calls, "?<12-937", "", 6);
        long[] above = {0, -1L, 0x2020202020202020L, 0x7F7F7F7F7F7F7F7FL, Long.MIN_VALUE};
        for (long bits : above) {
            for (int n = 1; n < 8; n++) {
                long lowest = (1L << 8 * n) - 1;
                CellBook book = new CellBook();
                calls.due(n + " bytes, whatever stands above", book.type(ONES & lowest | bits & ~lowest, n), n);
            }
        }
    }

    /** Other signs stand in the bytes above those of the text. */
    private static void comesTo(Calls calls, String text, String above, int value) {
        String signs = text + above;
        long characters = 0;
        for (int i = 0; i < signs.length(); i++) {
            characters |= (long) signs.charAt(i) << 8 * i;
        }
        CellBook book = new CellBook();
        calls.due("type " + text, book.type(characters, text.length()), text.length());
        calls.due("set", book.set(0, 0), true);
        calls.due("work", book.work(1), 1);
        calls.due("value of " + text, book.value(0), value);
    }

    /** "behind what is typed: how many are typed then". */
    private static void behindWhatIsTyped(Calls calls) {
        CellBook book = new CellBook();
        calls.due("type", Calls.type(book, "-"), 1);
        calls.due("type", Calls.type(book, "9"), 2);
        calls.due("type", Calls.type(book, "+12"), 5);
        calls.due("set", book.set(0, 0), true);
        calls.due("work", book.work(1), 1);
        calls.due("9 - (1 + 2)", book.value(0), 6);
        calls.due("behind a set it begins anew", Calls.type(book, "12"), 2);
    }

    /** "-1, and nothing changes, when n is not 1 .. 8". */
    private static void countsFrom1To8(Calls calls) {
        for (int n = 1; n <= 8; n++) {
            calls.due("type(ones, " + n + ")", new CellBook().type(ONES, n), n);
        }
        int[] wrong = {0, 9, -1, 10, -8, 16, 17, 24, 25, 32, 33, 64, 256, 257, 264, 65537, Integer.MAX_VALUE,
            Integer.MIN_VALUE, Integer.MIN_VALUE + 1, Integer.MIN_VALUE + 8};
        for (int n : wrong) {
            String call = "type(ones, " + n + ")";
            Twins.changesNothing(calls, call, book -> { }, book -> book.type(ONES, n), -1);
            Twins.changesNothing(calls, call, Stories::results, book -> book.type(ONES, n), -1);
            Twins.changesNothing(calls, call, Stories::faults, book -> book.type(ONES, n), -1);
        }
    }

    /** "one of them is not 33 .. 126". */
    private static void charactersFrom33To126(Calls calls) {
        for (int character = 0; character <= 255; character++) {
            boolean taken = character >= 33 && character <= 126;
            calls.due("type " + character, new CellBook().type(character, 1), taken ? 1 : -1);
            long last = ONES >>> 8 | (long) character << 56;
            calls.due("type " + character + " as the 8th", new CellBook().type(last, 8), taken ? 8 : -1);
        }
        int[] refused = {0, 32, 127, 128, 33 + 128, 255};
        for (int character : refused) {
            String call = "type 1 and " + character;
            long characters = '1' | (long) character << 8;
            Twins.changesNothing(calls, call, book -> { }, book -> book.type(characters, 2), -1);
            Twins.changesNothing(calls, call, Stories::results, book -> book.type(characters, 2), -1);
            Twins.changesNothing(calls, call, Stories::faults, book -> book.type(characters, 2), -1);
        }
    }

    private static void aWrongOneAnywhere(Calls calls) {
        for (int n = 1; n <= 8; n++) {
            for (int at = 0; at < n; at++) {
                long without = ONES & ~(255L << 8 * at);
                String where = ", the one at " + at + " of " + n;
                calls.due("type 32" + where, new CellBook().type(without | 32L << 8 * at, n), -1);
                calls.due("type 33" + where, new CellBook().type(without | 33L << 8 * at, n), n);
                calls.due("type 126" + where, new CellBook().type(without | 126L << 8 * at, n), n);
                calls.due("type 127" + where, new CellBook().type(without | 127L << 8 * at, n), -1);
                calls.due("type 255" + where, new CellBook().type(without | 255L << 8 * at, n), -1);
            }
        }
        CellBook book = new CellBook();
        calls.due("type", Calls.type(book, "+1"), 2);
        calls.due("type 2 and a blank", Calls.type(book, "2 "), -1);
        calls.due("type", Calls.type(book, "3"), 3);
        calls.due("set", book.set(0, 0), true);
        calls.due("work", book.work(1), 1);
        calls.due("the 2 was not typed either", book.value(0), 4);
    }

    /** "or there would be more than 24". */
    private static void atMost24(Calls calls) {
        for (int before = 0; before <= 24; before++) {
            for (int n = 1; n <= 8; n++) {
                CellBook book = new CellBook();
                typeOnes(book, before);
                int then = before + n <= 24 ? before + n : before;
                calls.due(n + " behind " + before, book.type(ONES, n), before + n <= 24 ? then : -1);
                calls.due("one more behind " + then, book.type(ONES, 1), then < 24 ? then + 1 : -1);
            }
        }
        for (int before = 17; before <= 24; before++) {
            int typed = before;
            int n = 25 - before;
            Twins.changesNothing(calls, n + " behind " + before, book -> typeOnes(book, typed),
                book -> book.type(ONES, n), -1);
        }
        aTextOf24(calls);
    }

    private static void typeOnes(CellBook book, int count) {
        for (int i = 0; i < count; i++) {
            book.type(ONES, 1);
        }
    }

    private static void aTextOf24(Calls calls) {
        CellBook book = new CellBook();
        calls.due("type", Calls.type(book, "~=+++11+"), 8);
        calls.due("type", Calls.type(book, "11++11+1"), 16);
        calls.due("type", Calls.type(book, "1++11+11"), 24);
        calls.due("a 25th", Calls.type(book, "1"), -1);
        calls.due("set", book.set(0, 0), true);
        calls.due("work", book.work(1), 1);
        calls.shows(book, 0, CellBook.VALUE, 1, 2);
    }
}
