import java.util.ArrayList;
import java.util.HashSet;
import java.util.List;
import java.util.Map;
import java.util.Set;

/** The law's text by its grammar alone: where it has its fault by all that may come next, what it gives by its signs. */
final class ModelText {
    private static final int MOST_OPEN = 6;
    private static final List<String[]> GRAMMAR = grammar();

    private ModelText() {
    }

    /**
     * By the document, a row each: what is on the left, then what it may be. The number behind a name: how many are
     * open. A name has two letters at least, so that no byte is taken for one.
     */
    private static List<String[]> grammar() {
        List<String[]> all = new ArrayList<>();
        may(all, "TEXT", "LINE", "LINE ; TEXT");
        may(all, "LINE", "E0", "E0 ? E0");
        for (int d = 0; d <= MOST_OPEN; d++) {
            may(all, "E" + d, "A" + d, "E" + d + " | A" + d);
            may(all, "A" + d, "B" + d, "A" + d + " & B" + d);
            may(all, "B" + d, "S" + d, "S" + d + " < S" + d, "S" + d + " = S" + d, "S" + d + " > S" + d);
            may(all, "S" + d, "P" + d, "S" + d + " + P" + d, "S" + d + " - P" + d);
            may(all, "P" + d, "O" + d, "P" + d + " * O" + d, "P" + d + " / O" + d, "P" + d + " % O" + d);
            may(all, "O" + d, "NUMBER", "f", "t", "w", "r", "s", "m");
            if (d < MOST_OPEN) may(all, "O" + d, "! O" + (d + 1), "- O" + (d + 1), "( E" + (d + 1) + " )");
        }
        may(all, "NUMBER", "DIGIT", "DIGIT DIGIT", "DIGIT DIGIT DIGIT", "DIGIT DIGIT DIGIT DIGIT");
        may(all, "DIGIT", "0", "1", "2", "3", "4", "5", "6", "7", "8", "9");
        return all;
    }

    private static void may(List<String[]> all, String left, String... rights) {
        for (String right : rights) all.add((left + " " + right).split(" "));
    }

    /** A row of the grammar, how much of it has come, and from which place on. */
    private record Begun(int row, int come, int from) {
        boolean isWhole() {
            return come == GRAMMAR.get(row).length - 1;
        }

        String left() {
            return GRAMMAR.get(row)[0];
        }

        /** What must come next; nothing for a whole one. */
        String next() {
            return isWhole() ? "" : GRAMMAR.get(row)[come + 1];
        }

        Begun on() {
            return new Begun(row, come + 1, from);
        }
    }

    /** The place of the first byte with which no text goes on, the length, if it ends too early; -1 for a text. */
    static int fault(String text) {
        List<Set<Begun>> places = new ArrayList<>();
        Set<Begun> now = new HashSet<>();
        begin(now, "TEXT", 0);
        for (int at = 0; at <= text.length(); at++) {
            places.add(now);
            complete(places, at);
            if (at == text.length()) break;
            String sign = String.valueOf(text.charAt(at));
            Set<Begun> then = new HashSet<>();
            for (Begun each : now) {
                if (each.next().equals(sign)) then.add(each.on());
            }
            if (then.isEmpty()) return at;
            now = then;
        }
        for (Begun each : now) {
            if (each.isWhole() && each.left().equals("TEXT") && each.from() == 0) return -1;
        }
        return text.length();
    }

    private static void begin(Set<Begun> place, String left, int at) {
        for (int row = 0; row < GRAMMAR.size(); row++) {
            if (GRAMMAR.get(row)[0].equals(left)) place.add(new Begun(row, 0, at));
        }
    }

    private static void complete(List<Set<Begun>> places, int at) {
        Set<Begun> here = places.get(at);
        List<Begun> left = new ArrayList<>(here);
        while (!left.isEmpty()) {
            Begun each = left.remove(left.size() - 1);
            Set<Begun> more = new HashSet<>();
            if (!each.isWhole()) {
                begin(more, each.next(), at);
            } else {
                for (Begun other : places.get(each.from())) {
                    if (other.next().equals(each.left())) more.add(other.on());
                }
            }
            for (Begun one : more) {
                if (here.add(one)) left.add(one);
            }
        }
    }

    /** What a text gives, of which each line and each sign is where it may be. */
    static int given(String text, Map<Character, Integer> named) {
        for (String line : text.split(";")) {
            String[] two = line.split("\\?");
            if (two.length == 1) return worked(line, named);
            if (worked(two[0], named) != 0) return worked(two[1], named);
        }
        return 0;
    }

    /** Parted at the last of the signs that bind least, outside of all ( ). */
    private static int worked(String e, Map<Character, Integer> named) {
        for (String signs : new String[] {"|", "&", "<=>", "+-", "*/%"}) {
            int at = lastOf(e, signs);
            if (at >= 0) return of(worked(e.substring(0, at), named), e.charAt(at), worked(e.substring(at + 1), named));
        }
        char first = e.charAt(0);
        if (first == '!') return worked(e.substring(1), named) == 0 ? 1 : 0;
        if (first == '-') return -worked(e.substring(1), named);
        if (first == '(') return worked(e.substring(1, e.length() - 1), named);
        return named.containsKey(first) ? named.get(first) : Integer.parseInt(e);
    }

    private static int lastOf(String e, String signs) {
        int open = 0;
        int last = -1;
        for (int i = 0; i < e.length(); i++) {
            char c = e.charAt(i);
            if (c == '(') open++;
            if (c == ')') open--;
            boolean isBetween = i > 0 && "|&<=>+-*/%!(".indexOf(e.charAt(i - 1)) < 0;
            if (open == 0 && isBetween && signs.indexOf(c) >= 0) last = i;
        }
        return last;
    }

    private static int of(int a, char sign, int b) {
        switch (sign) {
            case '|': return a != 0 || b != 0 ? 1 : 0;
            case '&': return a != 0 && b != 0 ? 1 : 0;
            case '<': return a < b ? 1 : 0;
            case '=': return a == b ? 1 : 0;
            case '>': return a > b ? 1 : 0;
            case '+': return a + b;
            case '-': return a - b;
            case '*': return a * b;
            case '/': return b == 0 ? 0 : a / b;
            default: return b == 0 ? 0 : a % b;
        }
    }
}
