import java.util.ArrayList;
import java.util.List;
import java.util.function.Consumer;
import java.util.function.Predicate;
import java.util.function.ToIntFunction;

/** Looks whether a call changes nothing: in all that follows, the book answers as one that did not get the call. */
final class Twins {
    private static final int WAYS_TO_GO_ON = 4;

    private Twins() { }

    static void refuses(Calls calls, String call, Consumer<CellBook> story, Predicate<CellBook> refused) {
        changesNothing(calls, call, story, book -> refused.test(book) ? 1 : 0, 0);
    }

    /** Behind the story the call is answered so, and nothing has changed. */
    static void changesNothing(Calls calls, String call, Consumer<CellBook> story, ToIntFunction<CellBook> asked,
            int want) {
        for (int way = 0; way < WAYS_TO_GO_ON; way++) {
            CellBook book = new CellBook();
            CellBook twin = new CellBook();
            story.accept(book);
            story.accept(twin);
            calls.due(call, asked.applyAsInt(book), want);
            calls.due("nothing has changed by " + call, goOn(book, way).equals(goOn(twin, way)), true);
        }
    }

    /** No question tells what is typed, or which cells with a fault are STALE: it shows only in what comes later. */
    private static List<Integer> goOn(CellBook book, int way) {
        List<Integer> answers = new ArrayList<>();
        see(book, answers);
        if (way == 0) {
            workByOnes(book, answers);
        } else if (way == 1) {
            typeUntilFull(book, answers);
        } else if (way == 2) {
            answers.add(book.set(9, 9) ? 1 : 0);
            see(book, answers);
            answers.add(book.work(20));
        } else {
            cancelAll(book, answers);
        }
        see(book, answers);
        return answers;
    }

    static void see(CellBook book, List<Integer> answers) {
        for (int c = 0; c < 10; c++) {
            answers.add(book.status(c));
            answers.add(book.value(c));
            answers.add(book.kind(c));
            answers.add(book.uses(c));
            answers.add(book.runs(c));
        }
        answers.add(book.steps());
    }

    private static void workByOnes(CellBook book, List<Integer> answers) {
        for (int i = 0; i <= 10; i++) {
            answers.add(book.work(1));
            for (int c = 0; c < 10; c++) {
                answers.add(book.status(c));
            }
        }
    }

    private static void typeUntilFull(CellBook book, List<Integer> answers) {
        for (int i = 0; i <= 24; i++) {
            answers.add(Calls.type(book, "1"));
        }
        answers.add(book.set(0, 0) ? 1 : 0);
    }

    private static void cancelAll(CellBook book, List<Integer> answers) {
        for (int c = 0; c < 10; c++) {
            answers.add(book.cancel(c) ? 1 : 0);
        }
        answers.add(book.work(20));
    }
}
