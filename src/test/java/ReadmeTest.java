import java.io.IOException;
import java.nio.file.Files;
import java.nio.file.Path;
import java.util.ArrayList;
import java.util.List;

/** The example in README.md: each of its lines is the call that is made here, and says what it answers. */
public final class ReadmeTest {
    private final Calls calls = new Calls();
    private final List<String> lines;
    private int next = 0;

    private ReadmeTest(List<String> lines) {
        this.lines = lines;
    }

    public static void main(String[] args) throws IOException {
        new ReadmeTest(firstExample(Files.readAllLines(Path.of("README.md")))).play();
    }

    private static List<String> firstExample(List<String> readme) {
        int begin = readme.indexOf("```java") + 1;
        List<String> lines = new ArrayList<>();
        for (int i = begin; i < readme.size() && !readme.get(i).equals("```"); i++) {
            lines.add(readme.get(i));
        }
        return lines;
    }

    private void play() {
        CellBook book = new CellBook();
        says("CellBook book = new CellBook();", "");
        says("book.type('7', 1);", book.type('7', 1));
        says("book.set(0, 0);", book.set(0, 0));
        says("book.type('+' | 'a' << 8 | '1' << 16, 3);", book.type('+' | 'a' << 8 | '1' << 16, 3));
        says("book.set(1, 1);", book.set(1, 1));
        says("book.status(1);", book.status(1));
        says("book.work(20);", book.work(20));
        says("book.value(1);", book.value(1));
        says("book.kind(1);", book.kind(1));
        says("book.uses(1);", book.uses(1));
        says("book.type('9', 1);", book.type('9', 1));
        says("book.set(0, 0);", book.set(0, 0));
        says("book.work(1);", book.work(1));
        says("book.cancel(1);", book.cancel(1));
        says("book.status(1);", book.status(1));
        says("book.remove(0);", book.remove(0));
        says("book.status(1);", book.status(1));
        says("book.runs(0);", book.runs(0));
        says("book.steps();", book.steps());
        calls.due("lines of the example", lines.size(), next);
        factorial();
        calls.end();
    }

    private void says(String call, Object answer) {
        String line = next < lines.size() ? lines.get(next) : "";
        next++;
        String[] parts = line.split(" +// ", 2);
        String said = parts.length < 2 ? "" : parts[1].split(":", 2)[0];
        calls.due("the example has " + call, parts[0].equals(call), true);
        calls.due(call + " is answered " + answer + ", the example says " + said, said.equals("" + answer), true);
    }

    private void factorial() {
        CellBook book = new CellBook();
        calls.put(book, 2, 'f', "\\n?<n11*n!f-n1");
        calls.put(book, 3, 'c', "!f4");
        calls.put(book, 4, 'd', "!f5");
        calls.due("work", book.work(20), 3);
        calls.shows(book, 3, CellBook.VALUE, 24, 1);
        calls.shows(book, 4, CellBook.DEPTH, 0, 0);
    }
}
