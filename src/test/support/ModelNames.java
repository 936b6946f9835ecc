import java.util.ArrayList;
import java.util.List;
import java.util.StringJoiner;
import java.util.regex.Matcher;
import java.util.regex.Pattern;

/** The document's words about people, and about the operations 25 to 29, for the model. */
final class ModelNames {
    private static final char WITHIN = '\1';

    private ModelNames() {
    }

    /** The text with another character for each brace and all that is within braces. */
    static String outside(String text) {
        StringBuilder out = new StringBuilder();
        int open = 0;
        for (char c : text.toCharArray()) {
            open = c == '}' && open > 0 ? open - 1 : open;
            out.append(open > 0 || c == '{' || c == '}' ? WITHIN : c);
            open += c == '{' ? 1 : 0;
        }
        return out.toString();
    }

    static List<String> names(String text) {
        List<String> names = new ArrayList<>();
        if (text.isBlank()) {
            return names;
        }
        Matcher and = Pattern.compile("[ \n]and(?=[ \n])").matcher(outside(text));
        int begin = 0;
        while (and.find()) {
            names.add(text.substring(begin, and.start()));
            begin = and.end();
        }
        names.add(text.substring(begin));
        return names;
    }

    /** The words of each part of a name: one, two or three lists. */
    private static List<List<String>> parts(String name) {
        List<List<String>> parts = new ArrayList<>();
        parts.add(new ArrayList<>());
        Matcher token = Pattern.compile(",|[^, \n~]+").matcher(outside(name));
        while (token.find()) {
            if (!token.group().equals(",")) {
                parts.get(parts.size() - 1).add(name.substring(token.start(), token.end()));
            } else if (parts.size() < 3) {
                parts.add(new ArrayList<>());
            }
        }
        return parts;
    }

    private static boolean low(String word) {
        Matcher letter = Pattern.compile("[A-Za-z]").matcher(outside(word));
        return letter.find() && letter.group().matches("[a-z]");
    }

    private static String initial(String word) {
        Matcher letter = Pattern.compile("[A-Za-z]").matcher(word);
        Matcher other = Pattern.compile("[^{}]").matcher(word);
        return (letter.find() ? letter.group() : other.find() ? other.group() : "") + ".";
    }

    private static String initials(List<String> words) {
        StringJoiner all = new StringJoiner(" ");
        words.forEach(word -> all.add(initial(word)));
        return all.toString();
    }

    static String formed(String name, int form) {
        List<List<String>> parts = parts(name);
        List<String> main = parts.get(0);
        List<Integer> lows = new ArrayList<>();
        for (int i = 0; i < main.size() - 1; i++) {
            if (low(main.get(i))) {
                lows.add(i);
            }
        }
        int lastBegin = lows.isEmpty() ? 0 : lows.get(lows.size() - 1) + 1;
        int vonBegin = 0;
        if (parts.size() == 1) {
            lastBegin = lows.isEmpty() ? Math.max(0, main.size() - 1) : lastBegin;
            vonBegin = lows.isEmpty() ? lastBegin : lows.get(0);
        }
        List<String> first = parts.size() == 1 ? main.subList(0, vonBegin) : parts.get(parts.size() - 1);
        List<String> jr = parts.size() == 3 ? parts.get(1) : List.of();
        String von = String.join(" ", main.subList(vonBegin, lastBegin));
        String last = String.join(" ", main.subList(lastBegin, main.size()));
        switch (form) {
            case 0:
                return joined(", ", joined(" ", String.join(" ", first), von, last), String.join(" ", jr));
            case 1:
                return joined(", ", joined(" ", von, last), String.join(" ", jr), initials(first));
            case 2:
                return last;
            default:
                return joined(" ", initials(first), von, last);
        }
    }

    private static String joined(String between, String... texts) {
        StringJoiner all = new StringJoiner(between);
        for (String text : texts) {
            if (!text.isEmpty()) {
                all.add(text);
            }
        }
        return all.toString();
    }

    static String capitals(String text, int mode) {
        String outside = outside(text);
        Matcher behindColon = Pattern.compile(":[ \n]*([^ \n])").matcher(outside);
        boolean[] stays = new boolean[text.length() + 1];
        stays[0] = mode == 0;
        for (int from = 0; mode == 0 && behindColon.find(from); from = behindColon.start() + 1) {
            stays[behindColon.start(1)] = true;
        }
        StringBuilder out = new StringBuilder(text);
        for (int i = 0; i < text.length(); i++) {
            if (!stays[i] && outside.charAt(i) != WITHIN) {
                char c = text.charAt(i);
                out.setCharAt(i, mode == 2 ? Character.toUpperCase(c) : Character.toLowerCase(c));
            }
        }
        return out.toString();
    }

    static String purified(String text) {
        return text.replaceAll("[-~]", " ").replaceAll("[^A-Za-z0-9 ]", "");
    }

    static String withoutBraces(String text) {
        return text.replaceAll("[{}]", "");
    }

    static String prefix(String text, int b) {
        if (b < 1) {
            return "";
        }
        int end = 0;
        while (end < text.length() && withoutBraces(text.substring(0, end)).length() < b) {
            end++;
        }
        StringBuilder all = new StringBuilder(text.substring(0, end));
        int open = 0;
        for (char c : all.toString().toCharArray()) {
            open = c == '{' ? open + 1 : c == '}' ? Math.max(0, open - 1) : open;
        }
        return all + "}".repeat(open);
    }

    static String part(String text, int b, int c) {
        StringBuilder all = new StringBuilder();
        for (int i = 1; i <= text.length(); i++) {
            // The i-th character is this one from the end, told by numbers below 0.
            long fromEnd = (long) i - text.length() - 1;
            boolean within = b > 0 ? i >= b && i < (long) b + c : fromEnd <= b && fromEnd > (long) b - c;
            if (b != 0 && within) {
                all.append(text.charAt(i - 1));
            }
        }
        return all.toString();
    }
}
