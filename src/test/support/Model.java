import java.util.ArrayList;
import java.util.LinkedHashMap;
import java.util.List;
import java.util.Map;
import java.util.NoSuchElementException;
import java.util.regex.Matcher;
import java.util.regex.Pattern;

/**
 * The document written down a second time, with all that the Java library has, to compare CiteForge with.
 * It shares no code with CiteForge, so that a slip in one shows; ModelMachine has the part about the machine.
 */
class Model {
    static final Pattern WORD = Pattern.compile("[A-Za-z0-9:-]{1,8}");
    private static final Pattern DIGITS = Pattern.compile("[0-9]{1,9}");
    private static final Pattern BLANKS = Pattern.compile("[ \n]*");

    /** Something else than what is due stands at the place of reading. */
    private static final class Wrong extends RuntimeException {
        private static final long serialVersionUID = 1L;
    }

    static final class Item {
        String key;
        String type;
        String sortKey = "";
        final Map<String, String> fields = new LinkedHashMap<>();
    }

    final int[] warned = new int[10];
    final List<Item> list = new ArrayList<>();
    private String database = "";
    private int at;
    private final List<Item> items = new ArrayList<>();
    private final Map<String, String> strings = new LinkedHashMap<>();
    private final List<String> cited = new ArrayList<>();

    static String textOf(long n) {
        StringBuilder text = new StringBuilder();
        for (long rest = n; (rest & 255) >= 32 && (rest & 255) <= 126; rest >>>= 8) {
            text.append((char) (rest & 255));
        }
        return text.toString();
    }

    /** The word in small letters, or null. */
    static String wordOf(long n) {
        String text = textOf(n);
        return WORD.matcher(text).matches() ? text.toLowerCase() : null;
    }

    int write(long eight, int n) {
        if (n < 1 || n > 8) {
            throw new IllegalArgumentException();
        }
        StringBuilder more = new StringBuilder();
        for (int i = 0; i < n; i++) {
            more.append((char) (eight >> 8 * i & 255));
        }
        if (!more.toString().matches("[ -~\n]*")) {
            throw new IllegalArgumentException();
        }
        if (database.length() + n > 320) {
            throw new IllegalStateException();
        }
        database += more;
        return database.length();
    }

    int erase() {
        int had = database.length();
        database = "";
        return had;
    }

    int read() {
        items.clear();
        strings.clear();
        list.clear();
        at = 0;
        int wrong = 0;
        while (wrong < 8 && database.indexOf('@', at) >= 0) {
            at = database.indexOf('@', at) + 1;
            try {
                item();
            } catch (Wrong e) {
                wrong++;
                warned[1]++;
            }
        }
        return items.size();
    }

    private String match(Pattern pattern) {
        Matcher matcher = pattern.matcher(database).region(at, database.length());
        if (!matcher.lookingAt()) {
            throw new Wrong();
        }
        at = matcher.end();
        return matcher.group();
    }

    private boolean stands(String sign) {
        match(BLANKS);
        return database.startsWith(sign, at);
    }

    private void sign(String sign) {
        if (!stands(sign)) {
            throw new Wrong();
        }
        at++;
    }

    private String word() {
        match(BLANKS);
        return match(WORD).toLowerCase();
    }

    private void item() {
        String type = word();
        sign("{");
        if (type.equals("string")) {
            String word = word();
            sign("=");
            String value = value();
            sign("}");
            if (strings.containsKey(word) || strings.size() < 8) {
                strings.put(word, value);
            } else {
                warned[5]++;
            }
        } else if (!type.equals("comment")) {
            keep(entry(type));
        }
    }

    private Item entry(String type) {
        Item item = new Item();
        item.type = type;
        item.key = word();
        while (stands(",")) {
            sign(",");
            if (stands("}")) {
                break;
            }
            String field = word();
            sign("=");
            String value = value();
            if (item.fields.size() < 6) {
                item.fields.putIfAbsent(field, value);
            }
        }
        sign("}");
        return item;
    }

    private void keep(Item item) {
        if (itemOf(item.key) != null) {
            warned[4]++;
        } else if (items.size() == 8) {
            warned[5]++;
        } else {
            items.add(item);
        }
    }

    private String value() {
        StringBuilder pieces = new StringBuilder(piece());
        while (stands("#")) {
            sign("#");
            pieces.append(piece());
        }
        String value = pieces.toString().replaceAll("[ \n]+", " ").replaceAll("^ | $", "");
        if (value.length() > 60) {
            warned[3]++;
            return value.substring(0, 60);
        }
        return value;
    }

    private String piece() {
        if (stands("{")) {
            return enclosed("}");
        }
        if (stands("\"")) {
            return enclosed("\"");
        }
        if (database.substring(at).matches("(?s)[0-9].*")) {
            return match(DIGITS);
        }
        String word = word();
        if (!strings.containsKey(word)) {
            warned[2]++;
        }
        return strings.getOrDefault(word, "");
    }

    private String enclosed(String end) {
        int begin = at + 1;
        int open = 0;
        for (at = begin; at < database.length(); at++) {
            if (open == 0 && database.startsWith(end, at)) {
                at++;
                return database.substring(begin, at - 1);
            }
            if (open == 0 && database.charAt(at) == '}') {
                throw new Wrong();
            }
            open += database.charAt(at) == '{' ? 1 : database.charAt(at) == '}' ? -1 : 0;
        }
        throw new Wrong();
    }

    private Item itemOf(String key) {
        for (Item item : items) {
            if (item.key.equals(key)) {
                return item;
            }
        }
        return null;
    }

    boolean cite(long n) {
        String word = wordOf(n);
        if (word == null) {
            throw new IllegalArgumentException();
        }
        if (cited.contains(word)) {
            return false;
        }
        if (cited.size() == 10) {
            throw new IllegalStateException();
        }
        return cited.add(word);
    }

    int forget() {
        int had = cited.size();
        cited.clear();
        return had;
    }

    int list(int min) {
        if (min < 1) {
            throw new IllegalArgumentException();
        }
        list.clear();
        for (String word : cited) {
            if (itemOf(word) == null) {
                warned[6]++;
            } else {
                list.add(itemOf(word));
            }
        }
        List<Item> referring = new ArrayList<>(list);
        for (Item item : items) {
            long many = referring.stream().filter(r -> item.key.equals(parent(r))).count();
            if (!cited.contains(item.key) && many >= min) {
                list.add(item);
            }
        }
        list.forEach(item -> item.sortKey = "");
        return list.size();
    }

    private static String parent(Item item) {
        return item.fields.getOrDefault("crossref", "").toLowerCase();
    }

    /** The field's text, or null when it is missing. */
    String fieldOf(Item item, String word) {
        if (word == null || item.fields.containsKey(word) || word.equals("crossref")) {
            return item.fields.get(word);
        }
        Item other = itemOf(parent(item));
        return other == null ? null : other.fields.get(word);
    }

    private Item listed(int i) {
        if (i < 0 || i >= list.size()) {
            throw new IndexOutOfBoundsException();
        }
        return list.get(i);
    }

    long key(int i) {
        return Checks.bytes(listed(i).key);
    }

    boolean sort() {
        List<Item> before = new ArrayList<>(list);
        list.sort((a, b) -> a.sortKey.compareTo(b.sortKey));
        return !before.equals(list);
    }

    int field(int i, long n, int k) {
        String text = fieldOf(listed(i), wordOf(n));
        if (text == null) {
            throw new NoSuchElementException();
        }
        return characterOf(text, k);
    }

    static int characterOf(String text, int i) {
        if (i < 0 || i >= text.length()) {
            throw new IndexOutOfBoundsException();
        }
        return text.charAt(i);
    }

    int warnings(int kind) {
        if (kind < 1 || kind > 9) {
            throw new IndexOutOfBoundsException();
        }
        return warned[kind];
    }

    int entries() {
        return items.size();
    }

    int citations() {
        return cited.size();
    }
}
