/** What the project's tests share: comparing answers, and putting texts into and out of a CiteForge. */
final class Checks {
    private static int wrong = 0;

    private Checks() {
    }

    interface Call {
        Object answer();
    }

    static void due(String what, Object want, Object got) {
        if (!want.equals(got)) {
            wrong++;
            System.out.println(what + " answered " + got + ", due is " + want);
        }
    }

    /** The very class of the exception is due, not one below it. */
    static void dueThrow(String what, Class<? extends RuntimeException> want, Call call) {
        try {
            Object got = call.answer();
            wrong++;
            System.out.println(what + " answered " + got + ", due is " + want.getSimpleName());
        } catch (RuntimeException e) {
            due(what + " threw", want.getSimpleName(), e.getClass().getSimpleName());
        }
    }

    static void end() {
        System.out.println(wrong == 0 ? "all answers are as due" : wrong + " answers are not as due");
        if (wrong != 0) {
            System.exit(1);
        }
    }

    /** Up to eight characters as operation 1 has them. */
    static long bytes(String text) {
        long n = 0;
        for (int i = 0; i < text.length(); i++) {
            n |= (long) text.charAt(i) << (8 * i);
        }
        return n;
    }

    static void write(CiteForge x, String text) {
        for (int i = 0; i < text.length(); i += 8) {
            String part = text.substring(i, Math.min(i + 8, text.length()));
            x.write(bytes(part), part.length());
        }
    }

    static CiteForge database(String text) {
        CiteForge x = new CiteForge();
        write(x, text);
        x.read();
        return x;
    }

    /** Cites the words and makes the list. */
    static CiteForge listed(String text, int min, String... words) {
        CiteForge x = database(text);
        for (String word : words) {
            x.cite(bytes(word));
        }
        x.list(min);
        return x;
    }

    static String keys(CiteForge x) {
        StringBuilder all = new StringBuilder();
        for (int i = 0; i < x.count(1); i++) {
            long key = x.key(i);
            all.append(i == 0 ? "" : " ");
            for (; key != 0; key >>>= 8) {
                all.append((char) (key & 255));
            }
        }
        return all.toString();
    }

    /** A field's text, or "missing". */
    static String field(CiteForge x, int i, String word) {
        StringBuilder all = new StringBuilder();
        try {
            for (int k = 0; k < 100; k++) {
                all.append((char) x.field(i, bytes(word), k));
            }
        } catch (java.util.NoSuchElementException e) {
            return "missing";
        } catch (IndexOutOfBoundsException e) {
            return all.toString();
        }
        return all.toString();
    }

    static String valueOf(String database, String word) {
        CiteForge x = listed(database, 1, "k");
        return x.count(1) == 0 ? "no entry" : field(x, 0, word);
    }

    /** The k-th value from the top, written as text, number or "missing". */
    static String top(CiteForge x, int k) {
        if (x.kind(k) == CiteForge.NUMBER) {
            return Integer.toString(x.value(k));
        }
        if (x.kind(k) == CiteForge.MISSING) {
            return "missing";
        }
        StringBuilder all = new StringBuilder("\"");
        for (int i = 0; i < x.value(k); i++) {
            all.append((char) x.letter(k, i));
        }
        return all.append('"').toString();
    }

    /** All values, the lowest first. */
    static String stack(CiteForge x) {
        StringBuilder all = new StringBuilder();
        for (int k = x.depth() - 1; k >= 0; k--) {
            all.append(top(x, k)).append(k == 0 ? "" : " ");
        }
        return all.toString();
    }

    static String line(CiteForge x, int k) {
        StringBuilder all = new StringBuilder();
        try {
            for (int i = 0; i < 200; i++) {
                all.append((char) x.line(k, i));
            }
        } catch (IndexOutOfBoundsException e) {
            return all.toString();
        }
        return all.toString();
    }

    static void number(CiteForge x, int function, long n) {
        x.define(function, 0, n);
    }

    static void op(CiteForge x, int function, int operation, long n) {
        x.define(function, operation, n);
    }

    /** Operations that give a text of any length. */
    static void text(CiteForge x, int function, String text) {
        x.define(function, 1, bytes(text.substring(0, Math.min(8, text.length()))));
        for (int i = 8; i < text.length(); i += 8) {
            x.define(function, 1, bytes(text.substring(i, Math.min(i + 8, text.length()))));
            x.define(function, 8, 0);
        }
    }

    /** What an operation makes of a text, with the numbers above it. */
    static String work(int operation, long n, String text, int... numbers) {
        CiteForge x = new CiteForge();
        text(x, 0, text);
        for (int each : numbers) {
            number(x, 0, each);
        }
        op(x, 0, operation, n);
        x.run(0, 0);
        due("depth behind operation " + operation, 1, x.depth());
        due("no warning 7 of operation " + operation, 0, x.warnings(7));
        return top(x, 0);
    }

    /** Runs operations, each a pair of operation and number, once on a new object. */
    static CiteForge ran(long... pairs) {
        CiteForge x = new CiteForge();
        for (int i = 0; i < pairs.length; i += 2) {
            x.define(0, (int) pairs[i], pairs[i + 1]);
        }
        x.run(0, 0);
        return x;
    }

    static void put(CiteForge x, String text) {
        x.clear(0);
        text(x, 0, text);
        op(x, 0, 21, 0);
        x.run(0, 0);
    }

    static String of(char c, int many) {
        return String.valueOf(c).repeat(many);
    }
}
