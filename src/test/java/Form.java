import java.util.ArrayDeque;
import java.util.Deque;
import java.util.HashMap;
import java.util.List;
import java.util.Map;
import java.util.Set;
import java.util.TreeSet;
import java.util.regex.MatchResult;
import java.util.regex.Pattern;

/** The form of a script as the document writes it: braces, brackets and bars are read from its text. */
final class Form {
    private static final Pattern SIGNS = Pattern.compile("\"[^\"]*\"|\\w+|[{}()|]|\\[|\\]");

    private static final Map<String, List<String>> RULES = rules();

    private final String text;
    private int furthest = 0;

    private Form(String text) {
        this.text = text;
    }

    private static Map<String, List<String>> rules() {
        Map<String, List<String>> rules = new HashMap<>();
        for (String line : Document.form().split("\n")) {
            String[] sides = line.strip().split(" = ", 2);
            rules.put(sides[0], SIGNS.matcher(sides[1]).results().map(MatchResult::group).toList());
        }
        return rules;
    }

    /** The error position of a text, or -1 if it has the form. */
    static int errorIn(String text) {
        Form form = new Form(text);
        Set<Integer> ends = form.endsOfRule("script", Set.of(0));
        // Whatever has begun can be ended, so the furthest character that fitted somewhere can be continued.
        return ends.contains(text.length()) ? -1 : form.furthest;
    }

    private Set<Integer> endsOfRule(String name, Set<Integer> starts) {
        return endsOfChoice(new ArrayDeque<>(RULES.get(name)), starts);
    }

    private Set<Integer> endsOfChoice(Deque<String> signs, Set<Integer> starts) {
        Set<Integer> ends = new TreeSet<>(endsOfRow(signs, starts));
        while ("|".equals(signs.peek())) {
            signs.pop();
            ends.addAll(endsOfRow(signs, starts));
        }
        return ends;
    }

    private Set<Integer> endsOfRow(Deque<String> signs, Set<Integer> starts) {
        Set<Integer> ends = starts;
        while (!signs.isEmpty() && !List.of("|", ")", "]", "}").contains(signs.peek())) {
            ends = endsOfPart(signs, ends);
        }
        return ends;
    }

    private Set<Integer> endsOfPart(Deque<String> signs, Set<Integer> starts) {
        String sign = signs.pop();
        switch (sign) {
            case "(":
                return endsOfGroup(signs, starts);
            case "[":
                Set<Integer> ends = endsOfGroup(signs, starts);
                ends.addAll(starts);
                return ends;
            case "{":
                return endsOfRepetition(signs, starts);
            case "digit":
                return endsOfDigit(starts);
            default:
                return sign.startsWith("\"") ? endsOfWord(sign.substring(1, sign.length() - 1), starts)
                        : endsOfRule(sign, starts);
        }
    }

    private Set<Integer> endsOfGroup(Deque<String> signs, Set<Integer> starts) {
        Set<Integer> ends = endsOfChoice(signs, starts);
        signs.pop();
        return ends;
    }

    private Set<Integer> endsOfRepetition(Deque<String> signs, Set<Integer> starts) {
        Set<Integer> all = new TreeSet<>(starts);
        Deque<String> behind = new ArrayDeque<>();
        for (boolean grows = true; grows; ) {
            behind = new ArrayDeque<>(signs);
            grows = all.addAll(endsOfGroup(behind, all));
        }
        signs.clear();
        signs.addAll(behind);
        return all;
    }

    private Set<Integer> endsOfDigit(Set<Integer> starts) {
        Set<Integer> ends = new TreeSet<>();
        for (int start : starts) {
            if (start < text.length() && "0123456789".indexOf(text.charAt(start)) >= 0) {
                ends.add(start + 1);
                furthest = Math.max(furthest, start + 1);
            }
        }
        return ends;
    }

    private Set<Integer> endsOfWord(String word, Set<Integer> starts) {
        Set<Integer> ends = new TreeSet<>();
        for (int start : starts) {
            int end = start;
            while (end < text.length() && end < start + word.length() && text.charAt(end) == word.charAt(end - start)) {
                end++;
            }
            furthest = Math.max(furthest, end);
            if (end == start + word.length()) {
                ends.add(end);
            }
        }
        return ends;
    }
}
