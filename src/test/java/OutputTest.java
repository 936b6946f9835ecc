import java.util.NoSuchElementException;

/** Promises 19 to 21: line, count, warnings; operations 21 and 22. */
public final class OutputTest {
    public static void main(String[] args) {
        breaking();
        longLines();
        endingLines();
        keptLines();
        line();
        count();
        warnings();
        Checks.end();
    }

    /** The lines that a text makes, with the line at hand ended behind them. */
    private static String lines(String... texts) {
        CiteForge x = new CiteForge();
        for (String text : texts) {
            Checks.put(x, text);
        }
        end(x);
        StringBuilder all = new StringBuilder();
        for (int k = 0; k < x.count(2); k++) {
            all.append(k == 0 ? "" : "|").append(Checks.line(x, k));
        }
        return all.toString();
    }

    private static void end(CiteForge x) {
        x.clear(1);
        x.define(1, 22, 0);
        x.run(1, 0);
    }

    private static void breaking() {
        String x30 = Checks.of('x', 30);
        String x31 = Checks.of('x', 31);
        String x14 = Checks.of('x', 14);
        Checks.due("thirty", x14 + " y " + Checks.of('z', 13), lines(x14 + " y " + Checks.of('z', 13)));
        Checks.due("thirty-one", x14 + " y|  " + x14, lines(x14 + " y " + x14));
        Checks.due("the last space has thirty before", x30 + "|  y", lines(x30 + " y"));
        Checks.due("else the first one", x31 + "|  y z", lines(x31 + " y z"));
        Checks.due("a space at the end", x31 + "|  ", lines(x31 + " "));
        Checks.due("a space at the end with thirty", x30 + "|  ", lines(x30 + " "));
        Checks.due("no space", x31, lines(x31));
        Checks.due("spaces up to the third are none", " a " + x31, lines(" a " + x31));
        Checks.due("the fourth one", "abc|  " + x31, lines("abc " + x31));
        Checks.due("two spaces in a row", x30 + "|   y", lines(x30 + "  y"));
        Checks.due("rows of spaces: the last that has thirty", Checks.of('x', 29) + " |  y", lines(Checks.of('x', 29) + "  y"));
        Checks.due("broken again", x30 + "|  " + x14 + " y|  " + x14, lines(x30 + " " + x14 + " y ", x14));
        Checks.due("more than once at once", x31 + "|  " + x31 + "|  y", lines(x31, " " + x31 + " y"));
        Checks.due("broken when it comes, not before", "aaaaaaa bbbbbbb ccccccc|  ddddddd eee",
            lines("aaaaaaa ", "bbbbbbb ", "ccccccc ", "ddddddd ", "eee"));
        Checks.due("spaces alone", Checks.of(' ', 30) + "|" + Checks.of(' ', 11), lines(Checks.of(' ', 40)));
    }

    private static void longLines() {
        CiteForge x = new CiteForge();
        Checks.put(x, Checks.of('a', 60));
        Checks.put(x, Checks.of('b', 60));
        Checks.put(x, Checks.of('c', 59));
        Checks.due("at hand", 179, x.count(3));
        Checks.put(x, "d e");
        Checks.due("180 at hand, what is more is left out", 180, x.count(3));
        Checks.put(x, " e");
        Checks.due("no room for a space", 180, x.count(3));
        Checks.due("no line", 0, x.count(2));
        end(x);
        Checks.due("180", Checks.of('a', 60) + Checks.of('b', 60) + Checks.of('c', 59) + "d", Checks.line(x, 0));
        Checks.put(x, Checks.of('a', 60));
        Checks.put(x, Checks.of('b', 60));
        Checks.put(x, Checks.of('c', 58));
        Checks.put(x, " ef");
        Checks.due("room before it is broken", 3, x.count(3));
        end(x);
        Checks.due("the rest", "  e", Checks.line(x, 2));
    }

    private static void endingLines() {
        CiteForge x = new CiteForge();
        end(x);
        Checks.due("22: without characters", 0, x.count(2));
        Checks.put(x, "");
        end(x);
        Checks.due("22: nothing was put out", 0, x.count(2));
        Checks.put(x, " ");
        end(x);
        end(x);
        Checks.due("22: a space is a character", 1, x.count(2));
        Checks.due("22: nothing at hand then", 0, x.count(3));
        x.clear(0);
        x.define(0, 0, 5);
        x.define(0, 21, 0);
        x.define(0, 2, 't');
        x.define(0, 21, 0);
        x.run(0, 0);
        Checks.due("21: a number and missing are nothing", 0, x.count(3));
        Checks.due("21: a number is warned of", 1, x.warnings(7));
    }

    private static void keptLines() {
        CiteForge x = new CiteForge();
        for (int i = 0; i < 30; i++) {
            Checks.put(x, String.valueOf((char) ('A' + i)));
            end(x);
        }
        Checks.due("all count", 30, x.count(2));
        Checks.due("promise 19: the first", "A", Checks.line(x, 0));
        Checks.due("promise 19: the 24th is kept", "X", Checks.line(x, 23));
        Checks.dueThrow("promise 19: the 25th is not kept", NoSuchElementException.class, () -> x.line(24, 0));
        Checks.dueThrow("promise 19: the 30th is not kept", NoSuchElementException.class, () -> x.line(29, 0));
    }

    private static void line() {
        CiteForge x = new CiteForge();
        Checks.put(x, "ab");
        Checks.dueThrow("promise 19: the line at hand is none", NoSuchElementException.class, () -> x.line(0, 0));
        end(x);
        Checks.due("promise 19: character", (int) 'b', x.line(0, 1));
        for (int bad : new int[] {-1, 1, Integer.MIN_VALUE, Integer.MAX_VALUE}) {
            Checks.dueThrow("promise 19: line " + bad, NoSuchElementException.class, () -> x.line(bad, 0));
            Checks.dueThrow("promise 19: line first " + bad, NoSuchElementException.class, () -> x.line(bad, -1));
        }
        for (int bad : new int[] {-1, 2, 180, Integer.MIN_VALUE, Integer.MAX_VALUE}) {
            Checks.dueThrow("promise 19: character " + bad, IndexOutOfBoundsException.class, () -> x.line(0, bad));
        }
    }

    private static void count() {
        CiteForge x = Checks.listed("@a{1}@a{2}@a{3}", 1, "1", "2", "z", "y", "x");
        Checks.put(x, "abcdef");
        end(x);
        Checks.put(x, "abcd");
        Checks.due("promise 20: entries", 3, x.count(0));
        Checks.due("promise 20: list", 2, x.count(1));
        Checks.due("promise 20: lines", 1, x.count(2));
        Checks.due("promise 20: at hand", 4, x.count(3));
        Checks.due("promise 20: citations", 5, x.count(4));
        for (int bad : new int[] {-1, 5, Integer.MIN_VALUE, Integer.MAX_VALUE}) {
            Checks.dueThrow("promise 20: " + bad, IndexOutOfBoundsException.class, () -> x.count(bad));
        }
    }

    private static void warnings() {
        CiteForge x = Checks.listed("@a{k,t=z}@a{k}@b@c", 1, "j");
        x.define(0, 9, 0);
        x.run(0, 0);
        Checks.due("promise 21: 1", 2, x.warnings(1));
        Checks.due("promise 21: 2", 1, x.warnings(2));
        Checks.due("promise 21: 3", 0, x.warnings(3));
        Checks.due("promise 21: 4", 1, x.warnings(4));
        Checks.due("promise 21: 6", 1, x.warnings(6));
        Checks.due("promise 21: 7", 1, x.warnings(7));
        x.read();
        Checks.due("promise 21: since the beginning", 4, x.warnings(1));
        for (int bad : new int[] {-1, 0, 10, Integer.MIN_VALUE, Integer.MAX_VALUE}) {
            Checks.dueThrow("promise 21: " + bad, IndexOutOfBoundsException.class, () -> x.warnings(bad));
        }
    }
}
