/** All promises: long runs of calls are answered as by a plain model of the document. */
public final class ModelTest {
    private static final int RUNS = 3000;
    private static final int CALLS = 512;

    private final Calls calls;
    private final Dice dice;
    private final int run;
    private final int[] seen;
    private final CellBook book = new CellBook();
    private final Model model = new Model();
    private int made = 0;

    private ModelTest(Calls calls, int run, int[] seen) {
        this.calls = calls;
        this.dice = new Dice(run);
        this.run = run;
        this.seen = seen;
    }

    public static void main(String[] args) {
        Calls calls = new Calls();
        int[] seen = new int[15];
        for (int run = 0; run < RUNS; run++) {
            new ModelTest(calls, run, seen).play();
        }
        for (int status = 0; status < seen.length; status++) {
            calls.due("status " + status + " was seen " + seen[status] + " times: enough", seen[status] >= 25, true);
        }
        calls.end();
    }

    private void play() {
        while (made < CALLS - 60) {
            int what = dice.next(100);
            if (what < 30) {
                put();
            } else if (what < 33) {
                int c = cell();
                check("remove(" + c + ")", book.remove(c) ? 1 : 0, model.remove(c) ? 1 : 0);
            } else if (what < 37) {
                int c = cell();
                check("cancel(" + c + ")", book.cancel(c) ? 1 : 0, model.cancel(c) ? 1 : 0);
            } else if (what < 62) {
                int n = dice.next(6) == 0 ? dice.next(23) - 1 : 1 + dice.next(4);
                check("work(" + n + ")", book.work(n), model.work(n));
            } else {
                observe(cell(), dice.next(5));
            }
        }
        check("work(20)", book.work(20), model.work(20));
        for (int c = 0; c < 10; c++) {
            for (int what = 0; what < 5; what++) {
                observe(c, what);
            }
        }
        check("steps()", book.steps(), model.steps());
    }

    private int cell() {
        return dice.next(40) == 0 ? dice.next(2) * 11 - 1 : dice.next(10);
    }

    private void check(String call, long got, long want) {
        made++;
        calls.due("run " + run + ", call " + made + ": " + call, got, want);
    }

    private void put() {
        char name = (char) ('a' + dice.next(10));
        String text = dice.textFor(name);
        for (int from = 0; from < text.length(); from += 8) {
            String piece = text.substring(from, Math.min(from + 8, text.length()));
            int want = model.typedLength() + piece.length() > 24 ? -1 : model.type(piece);
            check("type " + piece, Calls.type(book, piece), want);
        }
        // Mostly each name has a cell of its own: with many duplicates there would be little to work out.
        int c = dice.next(30) == 0 ? cell() : 'j' - name;
        check("set(" + c + ", " + name + ")", book.set(c, name - 'a') ? 1 : 0, model.set(c, name - 'a') ? 1 : 0);
    }

    private void observe(int c, int what) {
        if (what == 0) {
            check("status(" + c + ")", book.status(c), model.status(c));
            seen[model.status(c)]++;
        } else if (what == 1) {
            check("value(" + c + ")", book.value(c), model.value(c));
        } else if (what == 2) {
            check("kind(" + c + ")", book.kind(c), model.kind(c));
        } else if (what == 3) {
            check("uses(" + c + ")", book.uses(c), model.uses(c));
        } else {
            check("runs(" + c + ")", book.runs(c), model.runs(c));
        }
    }
}
