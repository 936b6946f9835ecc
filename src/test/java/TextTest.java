/** Operations 23 to 29: people and their forms, capitals, and parts of texts. */
public final class TextTest {
    public static void main(String[] args) {
        countNames();
        findNames();
        onePart();
        moreParts();
        lowWords();
        forms();
        initials();
        longNames();
        capitals();
        purify();
        size();
        cutBehind();
        cutOut();
        Checks.end();
    }

    private static void names(String want, String text) {
        Checks.due("23: " + text, want, Checks.work(23, 0, text));
    }

    private static void countNames() {
        names("0", "");
        names("0", "   ");
        names("1", "a");
        names("1", "~");
        names("1", ",");
        names("2", "a and b");
        names("2", "a  and  b");
        names("1", "a and");
        names("1", "and b");
        names("2", "a and ");
        names("2", " and b");
        names("2", " and ");
        names("3", " and and ");
        names("4", "a and b and and C d");
        names("1", "a And b");
        names("1", "a AND b");
        names("1", "a~and~b");
        names("1", "a andb");
        names("1", "land b");
        names("1", "{a and b}");
        names("2", "{a and b} and c");
        names("1", "{a and b");
        names("2", "a} and b");
        names("2", "a}} and b");
        names("1", "a}} {and b and c");
        names("1", "a {and} b");
        names("1", "a {}and b");
        CiteForge x = Checks.ran(2, 't', 23, 0);
        Checks.due("23: missing has none", "0", Checks.stack(x));
        Checks.due("23: missing is no warning", 0, x.warnings(7));
    }

    private static void form(String want, long form, int b, String text) {
        Checks.due("24, form " + form + ": " + b + " of " + text, "\"" + want + "\"", Checks.work(24, form, text, b));
    }

    private static void findNames() {
        form("b C", 0, 2, "a and b C and d");
        form("d", 0, 3, "a and b C and d");
        form("a", 0, 1, "  a  and b C and d");
        form("", 0, 3, "a and b and and C");
        form("C", 0, 4, "a and b and and C");
        form("", 0, 1, " and b");
        form("", 0, 2, "a and ");
        form("{a and b}", 0, 1, "{a and b} and c");
        form("c", 0, 2, "{a and b} and c");
        Checks.due("24: a name without words is no warning", 0, nameWarnings("a and and b", 2));
        Checks.due("24: none behind the last", 1, nameWarnings("a and b", 3));
        Checks.due("24: none before the first", 1, nameWarnings("a and b", 0));
        Checks.due("24: none below", 1, nameWarnings("a and b", -1));
        Checks.due("24: far out", 1, nameWarnings("a and b", Integer.MIN_VALUE));
        Checks.due("24: far out above", 1, nameWarnings("a and b", Integer.MAX_VALUE));
        Checks.due("24: nobody", 1, nameWarnings("  ", 1));
        Checks.due("24: nobody at 0", 1, nameWarnings("", 0));
        Checks.due("24: there", 0, nameWarnings("a and b", 2));
        CiteForge x = Checks.ran(1, 'a', 1, 'b', 24, 0);
        Checks.due("24: a text for b", "\"\"", Checks.stack(x));
        Checks.due("24: a text for b: warning 7", 1, x.warnings(7));
        Checks.due("24: a text for b: warning 9", 1, x.warnings(9));
    }

    private static int nameWarnings(String text, int b) {
        CiteForge x = new CiteForge();
        Checks.text(x, 0, text);
        Checks.number(x, 0, b);
        x.define(0, 24, 0);
        x.run(0, 0);
        Checks.due("24: nothing, a text", CiteForge.TEXT, x.kind(0));
        return x.warnings(9);
    }

    /** All forms of the one name in a text. */
    private static void forms(String text, String... wants) {
        for (int i = 0; i < wants.length; i++) {
            form(wants[i], i, 1, text);
        }
    }

    private static void onePart() {
        forms("Knuth", "Knuth", "Knuth", "Knuth", "Knuth");
        forms("knuth", "knuth", "knuth", "knuth", "knuth");
        forms("Donald E. Knuth", "Donald E. Knuth", "Knuth, D. E.", "Knuth", "D. E. Knuth");
        forms("Ludwig van Beethoven", "Ludwig van Beethoven", "van Beethoven, L.", "Beethoven", "L. van Beethoven");
        forms("Jean de la Fontaine", "Jean de la Fontaine", "de la Fontaine, J.", "Fontaine", "J. de la Fontaine");
        forms("A b C d E", "A b C d E", "b C d E, A.", "E", "A. b C d E");
        forms("A b C D", "A b C D", "b C D, A.", "C D", "A. b C D");
        forms("A B c", "A B c", "c, A. B.", "c", "A. B. c");
        forms("a b c", "a b c", "a b c", "c", "a b c");
        forms("von X", "von X", "von X", "X", "von X");
        forms("von X Y", "von X Y", "von X Y", "X Y", "von X Y");
        forms("von der X Y", "von der X Y", "von der X Y", "X Y", "von der X Y");
        forms("A~B", "A B", "B, A.", "B", "A. B");
        forms("  A  ~ B  ", "A B", "B, A.", "B", "A. B");
        forms("~", "", "", "", "");
    }

    private static void moreParts() {
        forms("Knuth, Donald E.", "Donald E. Knuth", "Knuth, D. E.", "Knuth", "D. E. Knuth");
        forms("de la X Y, J", "J de la X Y", "de la X Y, J.", "X Y", "J. de la X Y");
        forms("A b C d E, F", "F A b C d E", "A b C d E, F.", "E", "F. A b C d E");
        forms("b c, A", "A b c", "b c, A.", "c", "A. b c");
        forms("c, A", "A c", "c, A.", "c", "A. c");
        forms("van X, Jr, Al", "Al van X, Jr", "van X, Jr, A.", "X", "A. van X");
        forms("X, Jr, Al b, C", "Al b C X, Jr", "X, Jr, A. b. C.", "X", "A. b. C. X");
        forms("X,Jr,A,b,,c", "A b c X, Jr", "X, Jr, A. b. c.", "X", "A. b. c. X");
        forms("X,", "X", "X", "X", "X");
        forms("Al von X,", "Al von X", "Al von X", "X", "Al von X");
        forms(", A", "A", "A.", "", "A.");
        forms(", Jr, A", "A, Jr", "Jr, A.", "", "A.");
        forms(", Jr,", "Jr", "Jr", "", "");
        forms("X,,A", "A X", "X, A.", "X", "A. X");
        forms(",,", "", "", "", "");
        forms("{X, Y} Z, A", "A {X, Y} Z", "{X, Y} Z, A.", "{X, Y} Z", "A. {X, Y} Z");
    }

    private static void lowWords() {
        forms("A {b} C", "A {b} C", "C, A. b.", "C", "A. b. C");
        forms("A {B}c D", "A {B}c D", "{B}c D, A.", "D", "A. {B}c D");
        forms("A 1b D", "A 1b D", "1b D, A.", "D", "A. 1b D");
        forms("A 1B D", "A 1B D", "D, A. B.", "D", "A. B. D");
        forms("A 12 D", "A 12 D", "D, A. 1.", "D", "A. 1. D");
        forms("A }b D", "A }b D", "}b D, A.", "D", "A. }b D");
        forms("A {{x}y}Z D", "A {{x}y}Z D", "D, A. x.", "D", "A. x. D");
        forms("{van der} Berg", "{van der} Berg", "Berg, v.", "Berg", "v. Berg");
    }

    private static void forms() {
        form("Al X, Jr", 4, 1, "X, Jr, Al");
        form("X, Jr, A.", 5, 1, "X, Jr, Al");
        form("X", 4L * 1000000000000L + 2, 1, "X, Jr, Al");
        form("A. X", Long.MAX_VALUE, 1, "X, Jr, Al");
        form("Al X, Jr", -1, 1, "X, Jr, Al");
        form("Al X, Jr", Long.MIN_VALUE + 3, 1, "X, Jr, Al");
    }

    private static void initials() {
        forms("X, {'E}mile", "{'E}mile X", "X, E.", "X", "E. X");
        forms("X, 'e", "'e X", "X, e.", "X", "e. X");
        forms("X, {\"12}", "{\"12} X", "X, \".", "X", "\". X");
        forms("'2 X", "'2 X", "X, '.", "X", "'. X");
        forms("{'2} X", "{'2} X", "X, '.", "X", "'. X");
        forms("X, {}", "{} X", "X, .", "X", ". X");
        forms("X, {{a} b}c", "{{a} b}c X", "X, a.", "X", "a. X");
        forms("X, J.-P.", "J.-P. X", "X, J.", "X", "J. X");
    }

    private static void longNames() {
        StringBuilder letters = new StringBuilder("X,");
        StringBuilder dotted = new StringBuilder("X,");
        for (int i = 0; i < 29; i++) {
            letters.append(i == 0 ? "" : " ").append((char) ('A' + i % 26));
            dotted.append(' ').append((char) ('A' + i % 26)).append('.');
        }
        form(dotted.substring(0, 60), 1, 1, letters.toString());
        String low = "{" + Checks.of('x', 29) + "}," + Checks.of('y', 14) + "," + Checks.of('z', 13);
        form((Checks.of('z', 13) + " {" + Checks.of('x', 29) + "}, " + Checks.of('y', 14)).substring(0, 60), 0, 1, low);
    }

    private static void capital(String want, long mode, String text) {
        Checks.due("25, " + mode + ": " + text, "\"" + want + "\"", Checks.work(25, mode, text));
    }

    private static void capitals() {
        capital("The art: Of {TeX} x: y", 0, "The Art: Of {TeX} X: y");
        capital("ABC {De} F", 2, "aBc {De} f");
        capital("abc {De} f: g", 1, "ABC {De} F: G");
        capital("Ab:Cd: Ef", 0, "AB:CD: EF");
        capital("Ab::Cd", 0, "AB::CD");
        capital(":Ab", 0, ":AB");
        capital(" ab", 0, " AB");
        capital(" :   Ab cd", 0, " :   AB CD");
        capital("Ab: {C}d", 0, "AB: {C}D");
        capital("{A: B} c", 0, "{A: B} C");
        capital("{A}b", 0, "{A}B");
        capital("Ab:", 0, "AB:");
        capital("a}b", 0, "a}B");
        capital("a}b {C", 1, "A}B {C");
        capital("{A{B}C}d", 1, "{A{B}C}D");
        capital("{a{b}c}D", 2, "{a{b}c}d");
        capital("A1-~b", 0, "A1-~B");
        capital("@[`{", 1, "@[`{");
        capital("@[`{", 2, "@[`{");
        capital("Zz", 3, "ZZ");
        capital("zz", 4, "zZ");
        capital("ZZ", 5, "zZ");
        capital("ZZ", 3L * 1000000000000L + 2, "zZ");
        capital("zz", -1, "zZ");
        capital("", 0, "");
    }

    private static void purify() {
        Checks.due("26", "\"Ab 1 c  dE\"", Checks.work(26, 0, "{A}b-1~c -d:.,E\"@"));
        Checks.due("26: first and last", "\"a b\"", Checks.work(26, 0, "a b"));
        Checks.due("26: nothing", "\"\"", Checks.work(26, 0, "{}.:"));
    }

    private static void size() {
        Checks.due("27", "4", Checks.work(27, 0, "{a}b {c"));
        Checks.due("27: without braces", "3", Checks.work(27, 0, "a b"));
        Checks.due("27: nothing", "0", Checks.work(27, 0, "{}}{"));
        Checks.due("27: missing", "0", Checks.stack(Checks.ran(2, 't', 27, 0)));
    }

    private static void behind(String want, String text, int b) {
        Checks.due("28: " + b + " of " + text, "\"" + want + "\"", Checks.work(28, 0, text, b));
    }

    private static void cutBehind() {
        behind("a{b}", "a{bc}de", 2);
        behind("a{bc}", "a{bc}de", 3);
        behind("a{bc}d", "a{bc}de", 4);
        behind("a{bc}de", "a{bc}de", 5);
        behind("a{bc}de", "a{bc}de", Integer.MAX_VALUE);
        behind("{{{a}}}", "{{{ab}c}d}", 1);
        behind("", "{{{ab}c}d}", 0);
        behind("", "{{{ab}c}d}", -1);
        behind("", "{{{ab}c}d}", Integer.MIN_VALUE);
        behind("ab", "ab{}", 2);
        behind("ab{}", "ab{}", 3);
        behind("a{{}}", "a{{", 2);
        behind("}}{a}", "}}{ab}", 1);
        behind("{}", "{}", 1);
        String open = Checks.of('{', 58) + "a";
        behind(open + "}", open, 1);
    }

    private static void out(String want, String text, int b, int c) {
        Checks.due("29: " + c + " from " + b + " of " + text, "\"" + want + "\"", Checks.work(29, 0, text, b, c));
    }

    private static void cutOut() {
        out("bcd", "abcdef", 2, 3);
        out("abcdef", "abcdef", 1, 6);
        out("ef", "abcdef", 5, 9);
        out("", "abcdef", 7, 1);
        out("f", "abcdef", 6, Integer.MAX_VALUE);
        out("", "abcdef", Integer.MAX_VALUE, Integer.MAX_VALUE);
        out("", "abcdef", 0, 3);
        out("", "abcdef", 2, 0);
        out("", "abcdef", 2, -1);
        out("", "abcdef", -2, Integer.MIN_VALUE);
        out("cde", "abcdef", -2, 3);
        out("def", "abcdef", -1, 3);
        out("ab", "abcdef", -5, 9);
        out("a", "abcdef", -6, 1);
        out("", "abcdef", -7, 1);
        out("", "abcdef", -7, 9);
        out("abcdef", "abcdef", -1, Integer.MAX_VALUE);
        out("", "abcdef", Integer.MIN_VALUE, Integer.MAX_VALUE);
        out("", "", 1, 1);
        out("", "", -1, 1);
    }
}
