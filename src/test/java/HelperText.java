import java.util.ArrayList;
import java.util.HashMap;
import java.util.List;
import java.util.Map;

/** What a TOWN's text is, by splitting it in every way that might do: slow, and as the document says it. */
final class HelperText {
    /** What a letter stands for, of one house. */
    interface Facts {
        int of(char letter);
    }

    /** With what a text that breaks off might go on, ahead of the ) that it lacks. */
    private static final String[] TAILS = tails();
    private static final Map<String, Boolean> KNOWN = new HashMap<>();
    private static final Map<String, List<String[]>> PARTS = new HashMap<>();

    private HelperText() {
    }

    private static String[] tails() {
        String[] wholes = {"fear 1 p=1", "ease 1 p=1", "ill 1"};
        StringBuilder all = new StringBuilder();
        for (String whole : wholes) {
            for (int i = 0; i <= whole.length(); i++) all.append(whole.substring(i)).append(';');
        }
        return all.toString().split(";", -1);
    }

    /** The FAULT, or -1. */
    static int fault(String text) {
        if (isTown(text)) return -1;
        for (int n = 1; n <= text.length(); n++) {
            if (!begins(text.substring(0, n))) return n - 1;
        }
        return text.length();
    }

    /** Whether a town begins so. */
    static boolean begins(String start) {
        for (int deep = 0; deep <= 4; deep++) {
            for (String tail : TAILS) {
                if (isTown(start + tail + "))))".substring(0, deep))) return true;
            }
        }
        return false;
    }

    static boolean isTown(String text) {
        String[] clauses = text.split(";", -1);
        if (clauses.length > 10) return false;
        for (String clause : clauses) {
            if (!isClause(clause)) return false;
        }
        return true;
    }

    /** The clauses of a town, each by its parts. */
    static List<String[]> clauses(String town) {
        return PARTS.computeIfAbsent(town, key -> {
            List<String[]> all = new ArrayList<>();
            for (String clause : key.split(";")) all.add(clause.split(" "));
            return all;
        });
    }

    private static boolean isClause(String clause) {
        if (clause.matches("ill [0-9][0-9]?")) return true;
        if (!clause.matches("(fear|ease) [0-9][0-9]? .+")) return false;
        return isE(clause.substring(clause.indexOf(' ', 5) + 1), 0);
    }

    private static boolean isE(String e, int depth) {
        return splitsAt(e, '|', depth);
    }

    /** Whether it is an E (by |) or a T (by &): one part, or a part, the sign, and one such again. */
    private static boolean splitsAt(String e, char sign, int depth) {
        String key = sign + "" + depth + e;
        Boolean known = KNOWN.get(key);
        if (known != null) return known;
        boolean is = isPart(e, sign, depth);
        for (int i = 0; i < e.length() && !is; i++) {
            if (e.charAt(i) != sign) continue;
            is = isPart(e.substring(0, i), sign, depth) && splitsAt(e.substring(i + 1), sign, depth);
        }
        if (KNOWN.size() > 200000) KNOWN.clear();
        KNOWN.put(key, is);
        return is;
    }

    private static boolean isPart(String e, char sign, int depth) {
        return sign == '|' ? splitsAt(e, '&', depth) : isF(e, depth);
    }

    private static boolean isF(String f, int depth) {
        if (f.length() < 5 && f.matches("[pkvodw][<=>][0-9][0-9]?")) return true;
        if (depth == 4) return false;
        if (f.startsWith("!")) return isF(f.substring(1), depth + 1);
        if (f.startsWith("(") && f.endsWith(")")) return isE(f.substring(1, f.length() - 1), depth + 1);
        return false;
    }

    /** Whether an E holds, that is known to be one. */
    static boolean holds(String e, Facts facts) {
        int or = top(e, '|');
        if (or >= 0) return holds(e.substring(0, or), facts) | holds(e.substring(or + 1), facts);
        int and = top(e, '&');
        if (and >= 0) return holds(e.substring(0, and), facts) & holds(e.substring(and + 1), facts);
        if (e.charAt(0) == '!') return !holds(e.substring(1), facts);
        if (e.charAt(0) == '(') return holds(e.substring(1, e.length() - 1), facts);
        int fact = facts.of(e.charAt(0));
        int number = Integer.parseInt(e.substring(2));
        if (e.charAt(1) == '<') return fact < number;
        if (e.charAt(1) == '>') return fact > number;
        return fact == number;
    }

    private static int top(String e, char sign) {
        int deep = 0;
        for (int i = 0; i < e.length(); i++) {
            if (e.charAt(i) == '(') deep++;
            if (e.charAt(i) == ')') deep--;
            if (e.charAt(i) == sign && deep == 0) return i;
        }
        return -1;
    }
}
