import java.lang.reflect.Array;
import java.lang.reflect.Field;
import java.lang.reflect.Modifier;
import java.util.IdentityHashMap;
import java.util.Map;

/** All calls of a run share one room: a new book is small, and holds the same objects behind all calls. */
public final class RoomTest {
    private static final int MOST_OBJECTS = 100;
    private static final int MOST_FIELDS = 1500;

    /** Functions, errors, faults and a value; !a3 uses up the fuel. */
    private static final String[] TEXTS = {"\\k+!bk+!bk+!bk!bk", "\\k+!ck+!ck+!ck+!ck!ck", "\\k+!dk+!dk+!dk+!dk!dk",
        "\\k+*kk+*kk+*kk+*kk*kk", "+!a3!a3", "#$l1l1/1023", "?&=11~<12fj", "\\k?<k17!h-k1", "!h3", "+x"};

    private final Map<Object, Boolean> objects = new IdentityHashMap<>();
    private int fields = 0;

    public static void main(String[] args) throws IllegalAccessException {
        Calls calls = new Calls();
        CellBook book = new CellBook();
        RoomTest before = countOf(book);
        calls.due(before.objects.size() + " objects in a new book: few", before.objects.size() <= MOST_OBJECTS, true);
        calls.due(before.fields + " fields and elements: few", before.fields <= MOST_FIELDS, true);
        calls.due("the cells, their texts and so on were found", before.objects.size() > 20, true);
        for (int round = 0; round < 5; round++) {
            callAll(calls, book);
            RoomTest behind = countOf(book);
            calls.due("objects behind round " + round, behind.objects.size(), before.objects.size());
            calls.due("they are the same", before.objects.keySet().containsAll(behind.objects.keySet()), true);
        }
        calls.end();
    }

    private static RoomTest countOf(CellBook book) throws IllegalAccessException {
        RoomTest count = new RoomTest();
        count.add(book);
        return count;
    }

    private void add(Object one) throws IllegalAccessException {
        if (one == null || objects.put(one, true) != null) {
            return;
        }
        if (one.getClass().isArray()) {
            addElements(one);
        } else {
            addFields(one);
        }
    }

    private void addElements(Object array) throws IllegalAccessException {
        fields += Array.getLength(array);
        for (int i = 0; !array.getClass().getComponentType().isPrimitive() && i < Array.getLength(array); i++) {
            add(Array.get(array, i));
        }
    }

    private void addFields(Object one) throws IllegalAccessException {
        for (Field field : one.getClass().getDeclaredFields()) {
            if (!Modifier.isStatic(field.getModifiers())) {
                fields++;
                field.setAccessible(true);
                if (!field.getType().isPrimitive()) {
                    add(field.get(one));
                }
            }
        }
    }

    /** Some ninety calls, each of the face among them; they leave the book EMPTY. */
    private static void callAll(Calls calls, CellBook book) {
        for (int c = 0; c < TEXTS.length; c++) {
            calls.put(book, c, (char) ('a' + c), TEXTS[c]);
        }
        calls.due("cancel(6)", book.cancel(6), true);
        calls.due("work", book.work(20), 9);
        calls.shows(book, 4, CellBook.FUEL, 0, 0);
        calls.shows(book, 5, CellBook.DIVISION, 0, 0);
        calls.shows(book, 6, CellBook.CANCELLED, 0, 0);
        calls.shows(book, 8, CellBook.VALUE, 7, 1);
        calls.due("steps() are made", book.steps() > 2000, true);
        for (int c = 0; c < TEXTS.length; c++) {
            calls.due("uses(" + c + ")", book.uses(c) <= 1023, true);
            calls.due("runs(" + c + ")", book.runs(c) <= 5, true);
            calls.due("remove(" + c + ")", book.remove(c), true);
        }
    }
}
