import java.util.ArrayList;
import java.util.HashMap;
import java.util.List;
import java.util.Map;
import java.util.Set;
import java.util.TreeSet;

/** The document said again in the plainest way: trees, sets and exceptions, and all of it found anew each time. */
final class Model {
    private record Part(char sign, char behind, List<Character> digits, List<Part> parts) { }

    private record Script(char local, Part body, Set<Character> names) {
        boolean isFunction() {
            return local != 0;
        }
    }

    private static final class Stop extends RuntimeException {
        private static final long serialVersionUID = 1;
        private final int status;

        Stop(int status) {
            super(null, null, false, false);
            this.status = status;
        }
    }

    private final String[] texts = new String[10];
    private final char[] names = new char[10];
    private final boolean[] stale = new boolean[10];
    private final int[] results = new int[10];
    private final int[] values = new int[10];
    private final int[] kinds = new int[10];
    private final int[] runs = new int[10];
    private final StringBuilder typed = new StringBuilder();
    private int steps = 0;
    private int stepsOfRun = 0;

    int type(String piece) {
        typed.append(piece);
        return typed.length();
    }

    int typedLength() {
        return typed.length();
    }

    boolean set(int c, int name) {
        if (c < 0 || c > 9 || name < 0 || name > 9 || typed.length() == 0) {
            return false;
        }
        Set<Character> changed = new TreeSet<>();
        if (texts[c] != null) {
            changed.add(names[c]);
        }
        names[c] = (char) ('a' + name);
        changed.add(names[c]);
        texts[c] = typed.toString();
        typed.setLength(0);
        stale[c] = true;
        makeStale(changed);
        return true;
    }

    boolean remove(int c) {
        if (c < 0 || c > 9 || texts[c] == null) {
            return false;
        }
        texts[c] = null;
        stale[c] = false;
        makeStale(Set.of(names[c]));
        return true;
    }

    private void makeStale(Set<Character> changed) {
        Set<Integer> found = new TreeSet<>();
        for (int c = 0; c < 10; c++) {
            if (texts[c] != null && (changed.contains(names[c]) || meets(namesIn(c), changed))) {
                found.add(c);
            }
        }
        boolean grew = true;
        while (grew) {
            Set<Character> namesFound = new TreeSet<>();
            found.forEach(c -> namesFound.add(names[c]));
            grew = false;
            for (int c = 0; c < 10; c++) {
                grew |= texts[c] != null && meets(namesIn(c), namesFound) && found.add(c);
            }
        }
        found.forEach(c -> stale[c] = true);
    }

    private static boolean meets(Set<Character> some, Set<Character> others) {
        return some.stream().anyMatch(others::contains);
    }

    boolean cancel(int c) {
        if (status(c) != CellBook.STALE) {
            return false;
        }
        stale[c] = false;
        results[c] = CellBook.CANCELLED;
        return true;
    }

    int status(int c) {
        if (c < 0 || c > 9 || texts[c] == null) {
            return CellBook.EMPTY;
        }
        int fault = fault(c);
        return fault != 0 ? fault : stale[c] ? CellBook.STALE : results[c];
    }

    int value(int c) {
        return status(c) == CellBook.VALUE ? values[c] : 0;
    }

    int kind(int c) {
        return status(c) == CellBook.VALUE ? kinds[c] : 0;
    }

    int uses(int c) {
        int bits = 0;
        for (char name : c < 0 || c > 9 ? Set.<Character>of() : namesIn(c)) {
            bits += 1 << name - 'a';
        }
        return bits;
    }

    int runs(int c) {
        return c < 0 || c > 9 ? 0 : runs[c];
    }

    int steps() {
        return steps;
    }

    int work(int n) {
        if (n < 0 || n > 20) {
            return -1;
        }
        int done = 0;
        while (done < n && workOnce()) {
            done++;
        }
        return done;
    }

    private boolean workOnce() {
        for (int c = 0; c < 10; c++) {
            if (stale[c] && (fault(c) != 0 || others(c).stream().noneMatch(other -> stale[other]))) {
                stale[c] = false;
                if (fault(c) == 0) {
                    workOut(c);
                }
                return true;
            }
        }
        return false;
    }

    private void workOut(int c) {
        for (int other : others(c)) {
            if (status(other) != CellBook.VALUE && status(other) != CellBook.FUNCTION) {
                results[c] = CellBook.BLOCKED;
                return;
            }
        }
        Script script = script(c);
        try {
            int kind = kindOf(script.body());
            if (script.isFunction()) {
                require(kind == 1);
                results[c] = CellBook.FUNCTION;
                return;
            }
            runs[c]++;
            stepsOfRun = 0;
            values[c] = evaluate(script.body(), Map.of(), 0);
            kinds[c] = kind;
            results[c] = CellBook.VALUE;
        } catch (Stop stop) {
            results[c] = stop.status;
        }
    }

    private int fault(int c) {
        if (script(c) == null) {
            return CellBook.SYNTAX;
        }
        if (definers(names[c]).size() > 1) {
            return CellBook.DUPLICATE;
        }
        for (char name : namesIn(c)) {
            if (definers(name).isEmpty()) {
                return CellBook.MISSING;
            }
        }
        return leadsTo(c, c, new TreeSet<>()) ? CellBook.CYCLE : 0;
    }

    private boolean leadsTo(int from, int to, Set<Integer> seen) {
        for (char name : namesIn(from)) {
            for (int next : definers(name)) {
                if (next == from && script(from).isFunction()) {
                    continue;
                }
                if (next == to || seen.add(next) && leadsTo(next, to, seen)) {
                    return true;
                }
            }
        }
        return false;
    }

    private List<Integer> definers(char name) {
        List<Integer> found = new ArrayList<>();
        for (int c = 0; c < 10; c++) {
            if (texts[c] != null && names[c] == name) {
                found.add(c);
            }
        }
        return found;
    }

    private List<Integer> others(int c) {
        List<Integer> found = new ArrayList<>();
        for (char name : namesIn(c)) {
            found.addAll(definers(name));
        }
        found.removeIf(other -> other == c);
        return found;
    }

    private Set<Character> namesIn(int c) {
        Script script = texts[c] == null ? null : script(c);
        return script == null ? Set.of() : script.names();
    }

    // ---- syntax: what is left of the text is eaten from its front

    private static final Map<String, Script> READ = new HashMap<>();

    private Script script(int c) {
        if (!READ.containsKey(texts[c])) {
            READ.put(texts[c], read(texts[c]));
        }
        return READ.get(texts[c]);
    }

    private static Script read(String text) {
        try {
            StringBuilder rest = new StringBuilder(text);
            Set<Character> used = new TreeSet<>();
            char local = 0;
            if (rest.charAt(0) == '\\') {
                eat(rest, "\\");
                local = eat(rest, "klmnop");
            }
            Part body = part(rest, 0, local == 0 ? "" : "" + local, used);
            return rest.length() == 0 ? new Script(local, body, used) : null;
        } catch (Stop stop) {
            return null;
        }
    }

    private static char eat(StringBuilder rest, String allowed) {
        if (rest.length() == 0 || allowed.indexOf(rest.charAt(0)) < 0) {
            throw new Stop(CellBook.SYNTAX);
        }
        char sign = rest.charAt(0);
        rest.deleteCharAt(0);
        return sign;
    }

    private static Part part(StringBuilder rest, int depth, String bound, Set<Character> used) {
        if (depth > 5) {
            throw new Stop(CellBook.SYNTAX);
        }
        char sign = eat(rest, "0123456789abcdefghij" + bound + "+-*/<=&~?$!#");
        List<Part> parts = new ArrayList<>();
        List<Character> digits = new ArrayList<>();
        char behind = 0;
        if (sign == '!') {
            behind = eat(rest, "abcdefghij");
            used.add(behind);
        } else if (sign == '$') {
            behind = eat(rest, "klmnop");
        } else if (sign >= 'a' && sign <= 'j') {
            used.add(sign);
        }
        int count = "~!".indexOf(sign) >= 0 ? 1 : "?#".indexOf(sign) >= 0 ? 3 : "+-*/<=&$".indexOf(sign) >= 0 ? 2 : 0;
        for (int i = 0; i < count; i++) {
            if (sign == '#' && i > 0) {
                digits.add(eat(rest, "0123456789"));
            }
            parts.add(part(rest, depth + 1, sign == '$' && i == 1 ? bound + behind : bound, used));
        }
        return new Part(sign, behind, digits, parts);
    }

    // ---- types

    private static void require(boolean right) {
        if (!right) {
            throw new Stop(CellBook.TYPE);
        }
    }

    private int kindOf(Part part) {
        char sign = part.sign();
        int[] kindsOfParts = part.parts().stream().mapToInt(this::kindOf).toArray();
        if (sign >= 'a' && sign <= 'j') {
            int definer = definers(sign).get(0);
            require(!script(definer).isFunction());
            return kinds[definer];
        }
        if (sign == '!') {
            require(script(definers(part.behind()).get(0)).isFunction());
        }
        if (sign == '?') {
            require(kindsOfParts[0] == 2 && kindsOfParts[1] == kindsOfParts[2]);
            return kindsOfParts[2];
        }
        if (sign == '$') {
            require(kindsOfParts[0] == 1);
            return kindsOfParts[1];
        }
        for (int kind : kindsOfParts) {
            require(kind == ("&~".indexOf(sign) >= 0 ? 2 : 1));
        }
        return "<=&~".indexOf(sign) >= 0 ? 2 : 1;
    }

    // ---- meaning

    private int evaluate(Part part, Map<Character, Integer> locals, int open) {
        if (stepsOfRun == 2000) {
            throw new Stop(CellBook.FUEL);
        }
        stepsOfRun++;
        steps++;
        char sign = part.sign();
        if (sign >= '0' && sign <= '9') {
            return sign - '0';
        }
        if (sign >= 'a' && sign <= 'j') {
            return values[definers(sign).get(0)];
        }
        if (sign >= 'k' && sign <= 'p') {
            return locals.get(sign);
        }
        int first = evaluate(part.parts().get(0), locals, open);
        switch (sign) {
            case '~':
                return first == 1 ? 0 : 1;
            case '?':
                return evaluate(part.parts().get(first == 1 ? 1 : 2), locals, open);
            case '&':
                return first == 0 ? 0 : evaluate(part.parts().get(1), locals, open);
            case '$':
                Map<Character, Integer> more = new HashMap<>(locals);
                more.put(part.behind(), first);
                return evaluate(part.parts().get(1), more, open);
            case '!':
                if (open == 5) {
                    throw new Stop(CellBook.DEPTH);
                }
                Script function = script(definers(part.behind()).get(0));
                return evaluate(function.body(), Map.of(function.local(), first), open + 1);
            case '#':
                int which = first < 0 || first > 9 ? -1 : part.digits().indexOf((char) ('0' + first));
                if (which < 0) {
                    throw new Stop(CellBook.MATCH);
                }
                return evaluate(part.parts().get(which + 1), locals, open);
            default:
                return combine(sign, first, evaluate(part.parts().get(1), locals, open));
        }
    }

    private static int combine(char sign, int first, int second) {
        switch (sign) {
            case '+':
                return first + second;
            case '-':
                return first - second;
            case '*':
                return first * second;
            case '<':
                return first < second ? 1 : 0;
            case '=':
                return first == second ? 1 : 0;
            default:
                if (second == 0) {
                    throw new Stop(CellBook.DIVISION);
                }
                return first / second;
        }
    }
}
