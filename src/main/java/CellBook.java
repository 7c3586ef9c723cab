/** A notebook of ten cells in a small language; ../shared/DOC.md says what each call promises. */
public final class CellBook {
    public static final int EMPTY = 0;
    public static final int SYNTAX = 1;
    public static final int DUPLICATE = 2;
    public static final int MISSING = 3;
    public static final int CYCLE = 4;
    public static final int BLOCKED = 5;
    public static final int TYPE = 6;
    public static final int DIVISION = 7;
    public static final int MATCH = 8;
    public static final int DEPTH = 9;
    public static final int FUEL = 10;
    public static final int CANCELLED = 11;
    public static final int STALE = 12;
    public static final int FUNCTION = 13;
    public static final int VALUE = 14;

    private static final int CELLS = 10;
    private static final int NAMES = 10;
    private static final int LOCALS = 6;
    private static final int LONGEST_TEXT = 24;
    private static final int FUNCTION_HEAD = 2;
    private static final int MOST_AROUND = 5;
    private static final int MOST_OPEN_FUNCTIONS = 5;
    private static final int MOST_STEPS = 2000;
    private static final int MOST_WORK = 20;

    private static final int NONE = -1;
    private static final int NO_FAULT = 0;
    private static final int NO_ERROR = 0;
    private static final char NO_SIGN = 0;

    private static final int WRONG = 0;
    private static final int INT = 1;
    private static final int BOOL = 2;

    private final Cell[] cells;
    /** Of the cells that define a name one; it is the only one wherever types or values are looked up. */
    private final Cell[] definers;
    /** For each cell, as bits, the cells that a way leads to. */
    private final int[] reached;
    private final Evaluator evaluator;
    private final char[] typed;
    private int typedLength;

    public CellBook() {
        cells = new Cell[CELLS];
        for (int c = 0; c < CELLS; c++) {
            cells[c] = new Cell();
        }
        definers = new Cell[NAMES];
        reached = new int[CELLS];
        evaluator = new Evaluator();
        typed = new char[LONGEST_TEXT];
        typedLength = 0;
    }

    public int type(long characters, int n) {
        if (n < 1 || n > 8 || typedLength + n > LONGEST_TEXT || !areTypeable(characters, n)) {
            return -1;
        }
        for (int i = 0; i < n; i++) {
            typed[typedLength + i] = characterAt(characters, i);
        }
        typedLength += n;
        return typedLength;
    }

    public boolean set(int c, int name) {
        if (!isCell(c) || name < 0 || name >= NAMES || typedLength == 0) {
            return false;
        }
        Cell cell = cells[c];
        int oldAndNew = cell.nameBit() | 1 << name;
        cell.name = name;
        cell.text.read(typed, typedLength);
        typedLength = 0;
        follow(oldAndNew);
        return true;
    }

    public boolean remove(int c) {
        if (!isCell(c) || cells[c].isEmpty()) {
            return false;
        }
        int old = cells[c].nameBit();
        cells[c].clear();
        follow(old);
        return true;
    }

    public int work(int n) {
        if (n < 0 || n > MOST_WORK) {
            return -1;
        }
        for (int done = 0; done < n; done++) {
            int c = nextToWorkOn();
            if (c == NONE) {
                return done;
            }
            workOn(c);
        }
        return n;
    }

    public boolean cancel(int c) {
        if (!isCell(c) || cells[c].shown() != STALE) {
            return false;
        }
        cells[c].stale = false;
        cells[c].result = CANCELLED;
        return true;
    }

    public int status(int c) {
        return isCell(c) ? cells[c].shown() : EMPTY;
    }

    public int value(int c) {
        return isCell(c) && cells[c].shown() == VALUE ? cells[c].amount : 0;
    }

    public int kind(int c) {
        return isCell(c) && cells[c].shown() == VALUE ? cells[c].sort : 0;
    }

    public int uses(int c) {
        return isCell(c) ? cells[c].text.names : 0;
    }

    public int runs(int c) {
        return isCell(c) ? cells[c].runCount : 0;
    }

    public int steps() {
        return evaluator.stepsInAll;
    }

    private static boolean isCell(int c) {
        return c >= 0 && c < CELLS;
    }

    private static boolean isDigit(char sign) {
        return sign >= '0' && sign <= '9';
    }

    private static boolean isName(char sign) {
        return sign >= 'a' && sign <= 'j';
    }

    private static boolean isLocal(char sign) {
        return sign >= 'k' && sign <= 'p';
    }

    private static boolean hasBit(int bits, int i) {
        return (bits >> i & 1) == 1;
    }

    private static char characterAt(long characters, int i) {
        return (char) (characters >>> 8 * i & 255);
    }

    private static boolean areTypeable(long characters, int n) {
        for (int i = 0; i < n; i++) {
            char character = characterAt(characters, i);
            if (character < 33 || character > 126) {
                return false;
            }
        }
        return true;
    }

    private static Cell definerOf(Cell[] definers, char name) {
        return isName(name) ? definers[name - 'a'] : null;
    }

    /** A cell has become another, and these are its old name and its new one. */
    private void follow(int oldAndNew) {
        findDefiners();
        findWays();
        for (int c = 0; c < CELLS; c++) {
            cells[c].fault = faultOf(c);
        }
        spreadStale(oldAndNew);
    }

    private void findDefiners() {
        for (int name = 0; name < NAMES; name++) {
            definers[name] = null;
        }
        for (int c = 0; c < CELLS; c++) {
            if (!cells[c].isEmpty()) {
                definers[cells[c].name] = cells[c];
            }
        }
    }

    /** The cells, as bits, that define one of the names. */
    private int cellsDefining(int names) {
        int found = 0;
        for (int c = 0; c < CELLS; c++) {
            if ((cells[c].nameBit() & names) != 0) {
                found |= 1 << c;
            }
        }
        return found;
    }

    private int othersUsedBy(int c) {
        return cellsDefining(cells[c].text.names) & ~(1 << c);
    }

    private void findWays() {
        for (int c = 0; c < CELLS; c++) {
            boolean mayUseItself = cells[c].text.isFunction();
            reached[c] = mayUseItself ? othersUsedBy(c) : cellsDefining(cells[c].text.names);
        }
        for (int between = 0; between < CELLS; between++) {
            for (int c = 0; c < CELLS; c++) {
                if (hasBit(reached[c], between)) {
                    reached[c] |= reached[between];
                }
            }
        }
    }

    private int faultOf(int c) {
        Cell cell = cells[c];
        if (cell.isEmpty()) {
            return NO_FAULT;
        }
        if (!cell.text.wellFormed) {
            return SYNTAX;
        }
        if (cellsDefining(cell.nameBit()) != 1 << c) {
            return DUPLICATE;
        }
        if (usesMissingName(cell)) {
            return MISSING;
        }
        return hasBit(reached[c], c) ? CYCLE : NO_FAULT;
    }

    private boolean usesMissingName(Cell cell) {
        for (int name = 0; name < NAMES; name++) {
            if (hasBit(cell.text.names, name) && definers[name] == null) {
                return true;
            }
        }
        return false;
    }

    private void spreadStale(int oldAndNew) {
        for (int c = 0; c < CELLS; c++) {
            if ((cells[c].nameBit() & oldAndNew) != 0) {
                cells[c].stale = true;
            }
        }
        int spread = oldAndNew;
        // Each round but the last adds a name, so there are no more rounds than names and one.
        for (int round = 0; round <= NAMES; round++) {
            int before = spread;
            spread |= makeUsersStale(spread);
            if (spread == before) {
                return;
            }
        }
    }

    /** The names of the cells that use one of these names. */
    private int makeUsersStale(int names) {
        int found = 0;
        for (int c = 0; c < CELLS; c++) {
            if ((cells[c].text.names & names) != 0) {
                cells[c].stale = true;
                found |= cells[c].nameBit();
            }
        }
        return found;
    }

    private int nextToWorkOn() {
        int stale = staleCells();
        for (int c = 0; c < CELLS; c++) {
            boolean mayBeTaken = cells[c].fault != NO_FAULT || (othersUsedBy(c) & stale) == 0;
            if (hasBit(stale, c) && mayBeTaken) {
                return c;
            }
        }
        return NONE;
    }

    private int staleCells() {
        int found = 0;
        for (int c = 0; c < CELLS; c++) {
            if (cells[c].stale) {
                found |= 1 << c;
            }
        }
        return found;
    }

    private int usableCells() {
        int found = 0;
        for (int c = 0; c < CELLS; c++) {
            if (cells[c].isUsable()) {
                found |= 1 << c;
            }
        }
        return found;
    }

    private void workOn(int c) {
        Cell cell = cells[c];
        cell.stale = false;
        if (cell.fault != NO_FAULT) {
            return;
        }
        if ((othersUsedBy(c) & ~usableCells()) != 0) {
            cell.result = BLOCKED;
            return;
        }
        int sort = Types.ofText(definers, cell.text);
        if (sort == WRONG) {
            cell.result = TYPE;
        } else if (cell.text.isFunction()) {
            cell.result = FUNCTION;
        } else {
            evaluator.run(cell, sort, definers);
        }
    }

    private static final class Cell {
        private final Text text;
        private int name;
        private int fault;
        private boolean stale;
        private int result;
        private int amount;
        private int sort;
        private int runCount;

        Cell() {
            text = new Text();
            name = NONE;
            fault = NO_FAULT;
            stale = false;
            result = EMPTY;
            amount = 0;
            sort = WRONG;
            runCount = 0;
        }

        void clear() {
            name = NONE;
            stale = false;
            text.clear();
        }

        boolean isEmpty() {
            return name == NONE;
        }

        int nameBit() {
            return isEmpty() ? 0 : 1 << name;
        }

        int shown() {
            if (isEmpty()) {
                return EMPTY;
            }
            if (fault != NO_FAULT) {
                return fault;
            }
            return stale ? STALE : result;
        }

        boolean isUsable() {
            int now = shown();
            return now == VALUE || now == FUNCTION;
        }
    }

    /** A text, and for each expression in it where it ends: so the parts of one are found without a tree. */
    private static final class Text {
        private final char[] signs;
        private final int[] ends;
        private int length;
        private int start;
        private boolean wellFormed;
        private int names;

        Text() {
            signs = new char[LONGEST_TEXT];
            ends = new int[LONGEST_TEXT];
            length = 0;
            start = 0;
            wellFormed = false;
            names = 0;
        }

        void clear() {
            length = 0;
            wellFormed = false;
            names = 0;
        }

        void read(char[] from, int count) {
            length = Math.min(count, LONGEST_TEXT);
            System.arraycopy(from, 0, signs, 0, length);
            boolean hasHead = signAt(0) == '\\' && isLocal(signAt(1));
            start = hasHead ? FUNCTION_HEAD : 0;
            names = 0;
            wellFormed = readExpression(start, 0, hasHead ? 1 << localAt(1) : 0) == length;
            if (!wellFormed) {
                names = 0;
            }
        }

        boolean isFunction() {
            return wellFormed && start == FUNCTION_HEAD;
        }

        char signAt(int at) {
            return at >= 0 && at < length ? signs[at] : NO_SIGN;
        }

        /** The place behind the expression that begins at a place. */
        int endOf(int at) {
            return at >= 0 && at < length ? ends[at] : length;
        }

        /** Which local stands at a place; only asked where one does. */
        int localAt(int at) {
            char sign = signAt(at);
            return isLocal(sign) ? sign - 'k' : 0;
        }

        /** The place behind the expression, or NONE; it lies in so many others, where these locals are bound. */
        private int readExpression(int at, int around, int bound) {
            if (at < 0 || at >= length || around > MOST_AROUND) {
                return NONE;
            }
            int end = readSign(at, around + 1, bound);
            ends[at] = end;
            return end;
        }

        private int readSign(int at, int around, int bound) {
            switch (signs[at]) {
                case '+':
                case '-':
                case '*':
                case '/':
                case '<':
                case '=':
                case '&':
                    return readExpressions(at + 1, 2, around, bound);
                case '~':
                    return readExpressions(at + 1, 1, around, bound);
                case '?':
                    return readExpressions(at + 1, 3, around, bound);
                case '$':
                    return readBinding(at, around, bound);
                case '!':
                    return readName(at + 1) == NONE ? NONE : readExpression(at + 2, around, bound);
                case '#':
                    return readMatch(at, around, bound);
                default:
                    return readLeaf(at, bound);
            }
        }

        private int readExpressions(int at, int count, int around, int bound) {
            int end = at;
            for (int i = 0; i < count; i++) {
                end = readExpression(end, around, bound);
            }
            return end;
        }

        private int readBinding(int at, int around, int bound) {
            char local = signAt(at + 1);
            if (!isLocal(local)) {
                return NONE;
            }
            int end = readExpression(at + 2, around, bound);
            return readExpression(end, around, bound | 1 << local - 'k');
        }

        private int readMatch(int at, int around, int bound) {
            int end = readExpression(at + 1, around, bound);
            for (int i = 0; i < 2; i++) {
                if (!isDigit(signAt(end))) {
                    return NONE;
                }
                end = readExpression(end + 1, around, bound);
            }
            return end;
        }

        private int readLeaf(int at, int bound) {
            char sign = signAt(at);
            if (isLocal(sign)) {
                return hasBit(bound, sign - 'k') ? at + 1 : NONE;
            }
            return isDigit(sign) ? at + 1 : readName(at);
        }

        private int readName(int at) {
            char sign = signAt(at);
            if (!isName(sign)) {
                return NONE;
            }
            names |= 1 << sign - 'a';
            return at + 1;
        }
    }

    /** The types of well-formed texts: INT, BOOL, or WRONG where they are not as the document says. */
    private static final class Types {
        static int ofText(Cell[] definers, Text text) {
            int sort = ofExpression(definers, text, text.start, 0);
            return text.isFunction() && sort != INT ? WRONG : sort;
        }

        private static int ofExpression(Cell[] definers, Text text, int at, int around) {
            if (around > MOST_AROUND) {
                return WRONG;
            }
            switch (text.signAt(at)) {
                case '+':
                case '-':
                case '*':
                case '/':
                    return areBoth(INT, definers, text, at, around) ? INT : WRONG;
                case '<':
                case '=':
                    return areBoth(INT, definers, text, at, around) ? BOOL : WRONG;
                case '&':
                    return areBoth(BOOL, definers, text, at, around) ? BOOL : WRONG;
                case '~':
                    return ofExpression(definers, text, at + 1, around + 1) == BOOL ? BOOL : WRONG;
                case '?':
                    return ofChoice(definers, text, at, around);
                case '$':
                    return ofBinding(definers, text, at, around);
                case '!':
                    return ofCall(definers, text, at, around);
                case '#':
                    return ofMatch(definers, text, at, around);
                default:
                    return ofLeaf(definers, text.signAt(at));
            }
        }

        private static boolean areBoth(int sort, Cell[] definers, Text text, int at, int around) {
            int second = text.endOf(at + 1);
            return ofExpression(definers, text, at + 1, around + 1) == sort
                && ofExpression(definers, text, second, around + 1) == sort;
        }

        private static int ofChoice(Cell[] definers, Text text, int at, int around) {
            int second = text.endOf(at + 1);
            int third = text.endOf(second);
            if (ofExpression(definers, text, at + 1, around + 1) != BOOL) {
                return WRONG;
            }
            int sort = ofExpression(definers, text, second, around + 1);
            return ofExpression(definers, text, third, around + 1) == sort ? sort : WRONG;
        }

        private static int ofBinding(Cell[] definers, Text text, int at, int around) {
            int second = text.endOf(at + 2);
            if (ofExpression(definers, text, at + 2, around + 1) != INT) {
                return WRONG;
            }
            return ofExpression(definers, text, second, around + 1);
        }

        private static int ofCall(Cell[] definers, Text text, int at, int around) {
            Cell called = definerOf(definers, text.signAt(at + 1));
            if (called == null || !called.text.isFunction()) {
                return WRONG;
            }
            return ofExpression(definers, text, at + 2, around + 1) == INT ? INT : WRONG;
        }

        private static int ofMatch(Cell[] definers, Text text, int at, int around) {
            int second = text.endOf(at + 1) + 1;
            int third = text.endOf(second) + 1;
            return ofExpression(definers, text, at + 1, around + 1) == INT
                && ofExpression(definers, text, second, around + 1) == INT
                && ofExpression(definers, text, third, around + 1) == INT ? INT : WRONG;
        }

        private static int ofLeaf(Cell[] definers, char sign) {
            if (!isName(sign)) {
                return INT;
            }
            Cell named = definerOf(definers, sign);
            return named == null || named.text.isFunction() ? WRONG : named.sort;
        }
    }

    /** What is being evaluated: the text of a cell, or of a function that was called, with its locals. */
    private static final class Frame {
        private final int openFunctions;
        private final int[] locals;
        private Text text;

        Frame(int openFunctions) {
            this.openFunctions = openFunctions;
            locals = new int[LOCALS];
            text = null;
        }
    }

    /** Evaluates well-formed texts whose types are right; once there is an error, what it gives does not count. */
    private static final class Evaluator {
        private final Frame[] frames;
        private Cell[] definers;
        private int stepsMade;
        private int stepsInAll;
        private int error;

        Evaluator() {
            frames = new Frame[MOST_OPEN_FUNCTIONS + 1];
            for (int open = 0; open <= MOST_OPEN_FUNCTIONS; open++) {
                frames[open] = new Frame(open);
            }
            definers = null;
            stepsMade = 0;
            stepsInAll = 0;
            error = NO_ERROR;
        }

        void run(Cell cell, int sort, Cell[] definersNow) {
            definers = definersNow;
            stepsMade = 0;
            error = NO_ERROR;
            frames[0].text = cell.text;
            cell.amount = ofExpression(frames[0], cell.text.start, 0);
            cell.sort = sort;
            cell.result = hasFailed() ? error : VALUE;
            cell.runCount++;
            stepsInAll += stepsMade;
        }

        private int fail(int why) {
            error = why;
            return 0;
        }

        private boolean hasFailed() {
            return error != NO_ERROR;
        }

        private int ofExpression(Frame frame, int at, int around) {
            // No well-formed text goes deeper, but rule 8 of LANGUAGE.md asks for a guard in the recursion itself.
            if (around > MOST_AROUND) {
                return fail(DEPTH);
            }
            if (stepsMade >= MOST_STEPS) {
                return fail(FUEL);
            }
            stepsMade++;
            switch (frame.text.signAt(at)) {
                case '&':
                    return ofBoth(frame, at, around);
                case '~':
                    return 1 - ofExpression(frame, at + 1, around + 1);
                case '?':
                    return ofChoice(frame, at, around);
                case '$':
                    return ofBinding(frame, at, around);
                case '!':
                    return ofCall(frame, at, around);
                case '#':
                    return ofMatch(frame, at, around);
                case '+':
                case '-':
                case '*':
                case '/':
                case '<':
                case '=':
                    return ofPair(frame, at, around);
                default:
                    return ofLeaf(frame, at);
            }
        }

        private int ofLeaf(Frame frame, int at) {
            char sign = frame.text.signAt(at);
            if (isLocal(sign)) {
                return frame.locals[sign - 'k'];
            }
            if (isDigit(sign)) {
                return sign - '0';
            }
            Cell named = definerOf(definers, sign);
            return named == null ? 0 : named.amount;
        }

        private int ofPair(Frame frame, int at, int around) {
            int first = ofExpression(frame, at + 1, around + 1);
            if (hasFailed()) {
                return 0;
            }
            int second = ofExpression(frame, frame.text.endOf(at + 1), around + 1);
            if (hasFailed()) {
                return 0;
            }
            return combine(frame.text.signAt(at), first, second);
        }

        private int combine(char sign, int first, int second) {
            switch (sign) {
                case '+':
                    return first + second;
                case '-':
                    return first - second;
                case '*':
                    return first * second;
                case '/':
                    return second == 0 ? fail(DIVISION) : first / second;
                case '<':
                    return first < second ? 1 : 0;
                default:
                    return first == second ? 1 : 0;
            }
        }

        private int ofBoth(Frame frame, int at, int around) {
            int first = ofExpression(frame, at + 1, around + 1);
            if (hasFailed() || first == 0) {
                return 0;
            }
            return ofExpression(frame, frame.text.endOf(at + 1), around + 1);
        }

        private int ofChoice(Frame frame, int at, int around) {
            int first = ofExpression(frame, at + 1, around + 1);
            if (hasFailed()) {
                return 0;
            }
            int second = frame.text.endOf(at + 1);
            return ofExpression(frame, first == 1 ? second : frame.text.endOf(second), around + 1);
        }

        private int ofBinding(Frame frame, int at, int around) {
            int bound = ofExpression(frame, at + 2, around + 1);
            if (hasFailed()) {
                return 0;
            }
            int local = frame.text.localAt(at + 1);
            int before = frame.locals[local];
            frame.locals[local] = bound;
            int amount = ofExpression(frame, frame.text.endOf(at + 2), around + 1);
            frame.locals[local] = before;
            return amount;
        }

        private int ofCall(Frame frame, int at, int around) {
            int argument = ofExpression(frame, at + 2, around + 1);
            if (hasFailed()) {
                return 0;
            }
            if (frame.openFunctions >= MOST_OPEN_FUNCTIONS) {
                return fail(DEPTH);
            }
            Cell called = definerOf(definers, frame.text.signAt(at + 1));
            if (called == null) {
                return 0;
            }
            Frame inner = frames[frame.openFunctions + 1];
            inner.text = called.text;
            inner.locals[called.text.localAt(1)] = argument;
            return ofExpression(inner, called.text.start, 0);
        }

        private int ofMatch(Frame frame, int at, int around) {
            int first = ofExpression(frame, at + 1, around + 1);
            if (hasFailed()) {
                return 0;
            }
            int digit = frame.text.endOf(at + 1);
            for (int i = 0; i < 2; i++) {
                if (frame.text.signAt(digit) - '0' == first) {
                    return ofExpression(frame, digit + 1, around + 1);
                }
                digit = frame.text.endOf(digit + 1);
            }
            return fail(MATCH);
        }
    }
}
