/** The bounds of the operations 23 to 29: names of people, capitals, parts of texts. */
public final class TextBoundsTest {
    public static void main(String[] args) {
        andsBetween();
        onBothSides();
        outsideOfBraces();
        textsWithoutNames();
        namesWithoutWords();
        bthName();
        parts();
        wordsOfAName();
        lowWords();
        lowWordsButForTheLast();
        lowWordsOfTheFirstPart();
        whatHasNoWords();
        initials();
        formsOfSixty();
        namesOneAfterAnother();
        moduloForms();
        firstCharacter();
        behindAColon();
        capitalsOutsideOfBraces();
        onlyLetters();
        lettersDigitsSpaces();
        withoutBraces();
        upToTheBth();
        closedThen();
        closedWithinSixty();
        everyPartOfAText();
        farPartsOfAText();
        sixtyOfAText();
        Checks.end();
    }

    private static void count(int want, String text) {
        Checks.due("23: [" + text + "]", Integer.toString(want), Checks.work(23, 0, text));
    }

    private static void form(String want, long form, int b, String text) {
        Checks.due("24, form " + form + ": " + b + " of [" + text + "]", "\"" + want + "\"", Checks.work(24, form, text, b));
    }

    /** The four forms of the only name. */
    private static void forms(String text, String... wants) {
        for (int i = 0; i < wants.length; i++) {
            form(wants[i], i, 1, text);
        }
    }

    private static int noName(String text, int b) {
        CiteForge x = new CiteForge();
        Checks.text(x, 0, text);
        Checks.number(x, 0, b);
        x.define(0, 24, 0);
        x.run(0, 0);
        if (x.warnings(9) > 0) {
            Checks.due("24: nothing where there is no name", "\"\"", Checks.stack(x));
        }
        return x.warnings(9);
    }

    private static void andsBetween() {
        count(1, "x");
        count(2, "x and y");
        count(3, "x and y and z");
        count(12, "a" + " and ".repeat(11) + "abcd");
        // As many as there is room for.
        count(15, " and".repeat(14) + " abc");
        count(15, " and".repeat(14) + " ");
        count(14, " and".repeat(14));
        form("x", 0, 1, "x and y and z");
        form("y", 0, 2, "x and y and z");
        form("z", 0, 3, "x and y and z");
    }

    private static void onBothSides() {
        count(1, "and");
        count(1, " and");
        count(1, "and ");
        count(2, " and ");
        count(1, "x and");
        count(2, "x and ");
        count(1, "and x");
        count(2, " and x");
        count(1, "xand y");
        count(1, "x andy");
        count(1, "x~and~y");
        count(1, "x,and,y");
        count(1, "x an y");
        count(1, "x nd y");
        count(1, "x aand y");
        count(1, "x andd y");
        count(1, "x And y");
        count(1, "x aNd y");
        count(1, "x anD y");
        count(3, " and and ");
        count(2, "and and ");
        count(2, " and and");
        count(3, "x and and y");
        count(4, "x and and and y");
        count(3, "x and  and y");
        form("and", 0, 1, "and");
        form("x and", 0, 1, "x and");
        form("and x", 0, 1, "and x");
        form("and", 0, 2, " and and");
        form("and", 0, 1, "and and ");
    }

    private static void outsideOfBraces() {
        count(1, "{x and y}");
        count(1, "x{ and }y");
        count(1, "{{x} and y}");
        count(2, "{x}{} and y");
        count(2, "{x} and {y}");
        count(1, "{x and y");
        count(1, "{{x} and y");
        count(2, "x and {y and z");
        count(2, "} and y");
        count(2, "}} and y");
        count(3, "x} and y} and z");
        count(1, "}{x and y");
        count(2, "}{}x and y");
        count(2, "{x}} and y");
        count(1, "x {and} y");
        count(1, "x a{}nd y");
        form("{x and y}", 0, 1, "{x and y}");
        form("{x and y", 0, 1, "{x and y");
        form("}", 0, 1, "} and y");
        form("y", 0, 2, "}} and y");
    }

    private static void textsWithoutNames() {
        count(0, "");
        count(0, " ");
        count(0, Checks.of(' ', 60));
        count(1, Checks.of(' ', 59) + "x");
        count(1, "{}");
        for (int b : new int[] {Integer.MIN_VALUE, -1, 0, 1, 2, Integer.MAX_VALUE}) {
            Checks.due("24: " + b + " of nothing", 1, noName("", b));
            Checks.due("24: " + b + " of a blank", 1, noName(" ", b));
            Checks.due("24: " + b + " of blanks", 1, noName(Checks.of(' ', 60), b));
        }
        CiteForge x = Checks.ran(18, 0, 0, 1, 24, 0);
        Checks.due("24: the first of missing", "\"\"", Checks.stack(x));
        Checks.due("24: the first of missing: warning 9", 1, x.warnings(9));
        Checks.due("24: the first of missing: no warning 7", 0, x.warnings(7));
    }

    private static void noWords(String text, int b) {
        for (int form = 0; form < 4; form++) {
            form("", form, b, text);
        }
        Checks.due("24: a name without words is one: " + b + " of [" + text + "]", 0, noName(text, b));
    }

    private static void namesWithoutWords() {
        noWords("x and and y", 2);
        noWords("x and  and y", 2);
        noWords("x and and and y", 3);
        noWords(" and x", 1);
        noWords("x and ", 2);
        noWords(" and ", 1);
        noWords(" and ", 2);
        noWords("x and ~ and y", 2);
        noWords("x and , and y", 2);
        noWords("~", 1);
        noWords(",", 1);
        noWords(",,,,", 1);
        form("y", 0, 3, "x and and y");
        form("y", 0, 4, "x and and and y");
    }

    private static void bthName() {
        int[] none = {Integer.MIN_VALUE, Integer.MIN_VALUE + 1, -3, -2, -1, 0, 4, 5, Integer.MAX_VALUE};
        for (int b : none) {
            Checks.due("24: " + b + " of three", 1, noName("x and y and z", b));
        }
        for (int b = 1; b <= 3; b++) {
            Checks.due("24: " + b + " of three", 0, noName("x and y and z", b));
        }
        Checks.due("24: 0 of one", 1, noName("x", 0));
        Checks.due("24: 1 of one", 0, noName("x", 1));
        Checks.due("24: 2 of one", 1, noName("x", 2));
    }

    private static void parts() {
        forms("L F", "L F", "F, L.", "F", "L. F");
        forms("L, F", "F L", "L, F.", "L", "F. L");
        forms("L, J, F", "F L, J", "L, J, F.", "L", "F. L");
        forms("L, J, F, G", "F G L, J", "L, J, F. G.", "L", "F. G. L");
        forms("L, J, F, G, H", "F G H L, J", "L, J, F. G. H.", "L", "F. G. H. L");
        forms("L,J,F,G", "F G L, J", "L, J, F. G.", "L", "F. G. L");
        forms("{L, J}, F", "F {L, J}", "{L, J}, F.", "{L, J}", "F. {L, J}");
        forms("{L, J, F", "{L, J, F", "{L, J, F", "{L, J, F", "{L, J, F");
        forms("L}, F", "F L}", "L}, F.", "L}", "F. L}");
        forms("L J, {F, G}", "{F, G} L J", "L J, F.", "L J", "F. L J");
    }

    private static void wordsOfAName() {
        forms("A", "A", "A", "A", "A");
        forms(" A ", "A", "A", "A", "A");
        forms("~A~", "A", "A", "A", "A");
        forms("A B", "A B", "B, A.", "B", "A. B");
        forms("A~~ B", "A B", "B, A.", "B", "A. B");
        forms("{A B} C", "{A B} C", "C, A.", "C", "A. C");
        forms("{A~B}~C", "{A~B} C", "C, A.", "C", "A. C");
        forms("{A}{B} C", "{A}{B} C", "C, A.", "C", "A. C");
        forms("A{ }B C", "A{ }B C", "C, A.", "C", "A. C");
        forms("A} B", "A} B", "B, A.", "B", "A. B");
        forms("A } B", "A } B", "B, A. .", "B", "A. . B");
        forms("A {B C", "A {B C", "{B C, A.", "{B C", "A. {B C");
        // Thirty words of one letter: none is lost.
        form(("A ".repeat(29) + "B"), 0, 1, "A ".repeat(29) + "B");
        form("B", 2, 1, "A ".repeat(29) + "B");
    }

    /** Whether a word between A and Z is low, seen by whether it is of VON, which form 1 has first. */
    private static void low(boolean want, String word) {
        String got = Checks.work(24, 1, "A " + word + " Z", 1);
        Checks.due("low: " + word, want, got.equals("\"" + word + " Z, A.\""));
    }

    private static void lowWords() {
        low(true, "b");
        low(false, "B");
        low(true, "bC");
        low(false, "Bc");
        low(false, "1");
        low(true, "1b");
        low(false, "1B");
        low(true, "'z");
        low(false, "{b}");
        low(false, "{}");
        low(true, "{}b");
        low(true, "{B}b");
        low(false, "{b}B");
        low(true, "{b{c}D}a");
        low(false, "{b{c}d}");
        low(true, "}b");
        low(false, "}B");
        low(true, "}{B}b");
        low(true, "a");
        low(true, "z");
        low(false, "`");
        low(false, "A");
        low(false, "Z");
        low(false, "[");
        low(false, "@");
        forms("A {b Z", "A {b Z", "{b Z, A.", "{b Z", "A. {b Z");
    }

    private static void lowWordsButForTheLast() {
        forms("b", "b", "b", "b", "b");
        forms("A b", "A b", "b, A.", "b", "A. b");
        forms("a b", "a b", "a b", "b", "a b");
        forms("a B", "a B", "a B", "B", "a B");
        forms("A b C", "A b C", "b C, A.", "C", "A. b C");
        forms("A b c", "A b c", "b c, A.", "c", "A. b c");
        forms("A b C D", "A b C D", "b C D, A.", "C D", "A. b C D");
        forms("A b C d E F", "A b C d E F", "b C d E F, A.", "E F", "A. b C d E F");
        forms("A B C d", "A B C d", "d, A. B. C.", "d", "A. B. C. d");
        forms("a B c D", "a B c D", "a B c D", "D", "a B c D");
    }

    private static void lowWordsOfTheFirstPart() {
        forms("b, F", "F b", "b, F.", "b", "F. b");
        forms("a b, F", "F a b", "a b, F.", "b", "F. a b");
        forms("A b, F", "F A b", "A b, F.", "A b", "F. A b");
        forms("A b C, F", "F A b C", "A b C, F.", "C", "F. A b C");
        forms("A b C d E, F", "F A b C d E", "A b C d E, F.", "E", "F. A b C d E");
        forms("A B, f", "f A B", "A B, f.", "A B", "f. A B");
        forms("a B C, j, F g", "F g a B C, j", "a B C, j, F. g.", "B C", "F. g. a B C");
        forms(", a b", "a b", "a. b.", "", "a. b.");
    }

    private static void whatHasNoWords() {
        forms("L,", "L", "L", "L", "L");
        forms("L,,", "L", "L", "L", "L");
        forms("L,J,", "L, J", "L, J", "L", "L");
        forms("L,,F", "F L", "L, F.", "L", "F. L");
        forms("v L,,F", "F v L", "v L, F.", "L", "F. v L");
        forms(",J,", "J", "J", "", "");
        forms(",J,F", "F, J", "J, F.", "", "F.");
        forms(",,F", "F", "F.", "", "F.");
        forms(",F", "F", "F.", "", "F.");
        forms(",J K,", "J K", "J K", "", "");
    }

    private static void initial(String want, String word) {
        form("L, " + want, 1, 1, "L, " + word);
        form(want + " L", 3, 1, "L, " + word);
    }

    private static void initials() {
        initial("F.", "F");
        initial("F.", "Fa");
        initial("f.", "fa");
        initial("F.", "{F}a");
        initial("F.", "{{F}}a");
        initial("F.", "{'F}a");
        initial("F.", "1F");
        initial("1.", "12");
        initial("1.", "{12}");
        initial("'.", "{{'}1}");
        initial(".", "{}");
        initial(".", "}");
        initial(".", "{");
        initial("F.", "{F");
        initial("F.", "}F");
        initial("-.", "-");
        initial("F. G.", "F G");
        initial("F. G.", "F~G");
        initial("F. . G.", "F {} G");
        initial(". G.", "{} G");
        initial(". .", "{} {}");
        initial("a.", "a");
        initial("z.", "'z");
        initial("A.", "@A");
        initial("Z.", "[Z");
    }

    private static void formsOfSixty() {
        // FIRST has 29 letters: each initial takes three characters, so those behind the 60th are left out.
        String first = "F ".repeat(28) + "F";
        form(("L," + " F.".repeat(29)).substring(0, 60), 1, 1, "L," + first);
        form(("F. ".repeat(29) + "L").substring(0, 60), 3, 1, "L," + first);
        String fifty = Checks.of('L', 56);
        form(fifty + ", F.", 1, 1, fifty + ",F");
        form("L" + fifty + ", F", 1, 1, "L" + fifty + ",F");
        form("LL" + fifty + ", ", 1, 1, "LL" + fifty + ",F");
        form("F " + fifty, 0, 1, fifty + ",F");
        form(fifty + ", J", 0, 1, fifty + ",J,");
        form("F L" + fifty, 0, 1, "L" + fifty + ",F");
        form("F " + Checks.of('L', 55) + ", J", 0, 1, Checks.of('L', 55) + ",J,F");
        form("FF " + Checks.of('L', 54) + ", J", 0, 1, Checks.of('L', 54) + ",JK,FF");
    }

    /** Names of all sorts in one object: what one has is not in the next one. */
    private static void namesOneAfterAnother() {
        String[] texts = {"A b C and D", "L, J, F", "A B C D", "v L, F", "x", "L, J,", "", "A b C d E and v L, J, F and Z", ", F", "A b"};
        for (int i = 0; i < texts.length; i++) {
            for (int j = 0; j < texts.length; j++) {
                for (int b = 1; b <= 3; b++) {
                    behindAnother(texts[i], b, texts[j]);
                }
            }
        }
    }

    private static void behindAnother(String first, int b, String second) {
        CiteForge x = new CiteForge();
        name(x, 0, first, b, 1);
        for (int form = 0; form < 4; form++) {
            name(x, 1, second, 1, form);
            x.run(0, 0);
            x.run(1, 0);
            x.clear(1);
            Checks.due("24: form " + form + " of [" + second + "] behind " + b + " of [" + first + "]",
                Checks.work(24, form, second, 1), Checks.top(x, 0));
        }
    }

    private static void name(CiteForge x, int function, String text, int b, int form) {
        Checks.text(x, function, text);
        Checks.number(x, function, b);
        x.define(function, 24, form);
    }

    private static void moduloForms() {
        String[] wants = {"F v L, J", "v L, J, F.", "L", "F. v L"};
        for (int n = 0; n < 13; n++) {
            form(wants[n % 4], n, 1, "v L, J, F");
        }
    }

    private static void capitals(String want, long n, String text) {
        Checks.due("25, " + n + ": [" + text + "]", "\"" + want + "\"", Checks.work(25, n, text));
    }

    private static void firstCharacter() {
        capitals("", 0, "");
        capitals("A", 0, "A");
        capitals("a", 0, "a");
        capitals("Ab", 0, "AB");
        capitals("ab", 0, "aB");
        capitals(" a", 0, " A");
        capitals("1a", 0, "1A");
        capitals("{A}b", 0, "{A}B");
        capitals("}a", 0, "}A");
        capitals("a", 1, "A");
        capitals("A", 2, "a");
        capitals("A b", 0, "A B");
    }

    private static void behindAColon() {
        capitals("A:B", 0, "A:B");
        capitals("A:b", 0, "A:b");
        capitals("A: B", 0, "A: B");
        capitals("A:   Bc", 0, "A:   BC");
        capitals("A: 1b", 0, "A: 1B");
        capitals("A:~b", 0, "A:~B");
        capitals("A:{B}c", 0, "A:{B}C");
        capitals("A: }b", 0, "A: }B");
        capitals("A{:}b", 0, "A{:}B");
        capitals("A{: }b c", 0, "A{: }B C");
        capitals("A::Bc", 0, "A::BC");
        capitals("A: :Bc", 0, "A: :BC");
        capitals(":Ab", 0, ":AB");
        capitals(": Ab", 0, ": AB");
        capitals(":  Ab", 0, ":  AB");
        capitals("A:", 0, "A:");
        capitals("A: ", 0, "A: ");
        capitals("A}:Bc", 0, "A}:BC");
        capitals("a:b", 1, "A:B");
        capitals("A:B", 2, "a:b");
        capitals("Ab:Cd:Ef", 0, "AB:CD:EF");
    }

    private static void capitalsOutsideOfBraces() {
        for (int n = 0; n < 9; n++) {
            String[] wants = {"Aa {aA{bB}cC} dd {eE", "aa {aA{bB}cC} dd {eE", "AA {aA{bB}cC} DD {eE"};
            capitals(wants[n % 3], n, "Aa {aA{bB}cC} dD {eE");
        }
        capitals("aa}aa", 1, "aA}aA");
        capitals("AA}AA", 2, "aA}aA");
        capitals("aa}}{aA}aa", 1, "aA}}{aA}aA");
        capitals("AA}}{aA}AA", 2, "aA}}{aA}aA");
        capitals("{aA", 1, "{aA");
        capitals("{aA", 2, "{aA");
    }

    private static void onlyLetters() {
        for (char c = 32; c < 127; c++) {
            String small = c >= 'A' && c <= 'Z' ? String.valueOf((char) (c + 32)) : String.valueOf(c);
            String large = c >= 'a' && c <= 'z' ? String.valueOf((char) (c - 32)) : String.valueOf(c);
            capitals("x" + small, 0, "x" + c);
            capitals("x" + small, 1, "x" + c);
            capitals("X" + large, 2, "x" + c);
        }
    }

    private static void lettersDigitsSpaces() {
        for (char c = 32; c < 127; c++) {
            boolean stays = c >= '0' && c <= '9' || c >= 'A' && c <= 'Z' || c >= 'a' && c <= 'z' || c == ' ';
            String want = stays ? String.valueOf(c) : c == '-' || c == '~' ? " " : "";
            Checks.due("26: " + c, "\"x" + want + "y\"", Checks.work(26, 0, "x" + c + "y"));
        }
        Checks.due("26: nothing", "\"\"", Checks.work(26, 0, ""));
        Checks.due("26: sixty", "\"" + Checks.of(' ', 60) + "\"", Checks.work(26, 0, Checks.of('-', 60)));
    }

    private static void withoutBraces() {
        for (char c = 32; c < 127; c++) {
            Checks.due("27: " + c, c == '{' || c == '}' ? "2" : "3", Checks.work(27, 0, "x" + c + "y"));
        }
        Checks.due("27: nothing", "0", Checks.work(27, 0, ""));
        Checks.due("27: braces alone", "0", Checks.work(27, 0, "}{{}}{"));
        Checks.due("27: what is within them counts", "3", Checks.work(27, 0, "{a{b}c}"));
        Checks.due("27: sixty", "60", Checks.work(27, 0, Checks.of('x', 60)));
    }

    private static void behind(String want, String text, int b) {
        Checks.due("28: " + b + " of [" + text + "]", "\"" + want + "\"", Checks.work(28, 0, text, b));
    }

    private static void upToTheBth() {
        for (int b : new int[] {Integer.MIN_VALUE, -1, 0}) {
            behind("", "abc", b);
            behind("", "{abc}", b);
            behind("", "", b);
        }
        behind("a", "abc", 1);
        behind("ab", "abc", 2);
        behind("abc", "abc", 3);
        behind("abc", "abc", 4);
        behind("abc", "abc", Integer.MAX_VALUE);
        behind("", "", 1);
        behind(Checks.of('x', 59), Checks.of('x', 60), 59);
        behind(Checks.of('x', 60), Checks.of('x', 60), 60);
        behind(Checks.of('x', 60), Checks.of('x', 60), 61);
    }

    private static void closedThen() {
        behind("{a}", "{abc}", 1);
        behind("{abc}", "{abc}", 3);
        behind("{abc}", "{abc}", 4);
        behind("{abc}", "{abc", 3);
        behind("{abc}", "{abc", 4);
        behind("{{a}}", "{{a}b}", 1);
        behind("{{a}b}", "{{a}b}", 2);
        behind("{a}b", "{a}b{c}", 2);
        behind("{a}b{c}", "{a}b{c}", 3);
        behind("a", "a{}", 1);
        behind("a{}", "a{}", 2);
        behind("a{}", "a{", 2);
        behind("a", "a}}", 1);
        behind("a}}", "a}}", 2);
        behind("}a", "}ab", 1);
        behind("}{a}", "}{ab", 1);
        behind("{}}{a}", "{}}{ab", 1);
        behind("{}", "{", 1);
        behind("}", "}", 1);
    }

    private static void closedWithinSixty() {
        String open = Checks.of('{', 29);
        behind(open + "ab" + Checks.of('}', 29), open + "abc", 2);
        behind(open + "abc" + Checks.of('}', 28), open + "abc", 3);
        behind(Checks.of('{', 60), Checks.of('{', 60), 1);
        behind(Checks.of('{', 59) + "a", Checks.of('{', 59) + "a", 1);
        behind(Checks.of('{', 58) + "a}", Checks.of('{', 58) + "ab", 1);
        behind(Checks.of('{', 30) + Checks.of('}', 30), Checks.of('{', 30), 1);
        behind(Checks.of('{', 31) + Checks.of('}', 29), Checks.of('{', 31), 1);
    }

    private static void out(String want, String text, int b, int c) {
        Checks.due("29: " + b + ", " + c + " of [" + text + "]", "\"" + want + "\"", Checks.work(29, 0, text, b, c));
    }

    /** Each character asked by itself: whether it is of those that the document tells. */
    private static String asked(String text, long b, long c) {
        StringBuilder all = new StringBuilder();
        for (int place = 1; place <= text.length(); place++) {
            long fromTheEnd = text.length() - place + 1;
            boolean forwards = b > 0 && place >= b && place < b + c;
            boolean backwards = b < 0 && fromTheEnd >= -b && fromTheEnd < -b + c;
            if (c >= 1 && (forwards || backwards)) {
                all.append(text.charAt(place - 1));
            }
        }
        return all.toString();
    }

    private static void everyPartOfAText() {
        for (String text : new String[] {"", "a", "ab", "a{b}", "{{c}"}) {
            for (int b = -7; b <= 7; b++) {
                for (int c = -2; c <= 7; c++) {
                    out(asked(text, b, c), text, b, c);
                }
            }
        }
        out("bcd", "abcdef", 2, 3);
        out("cde", "abcdef", -2, 3);
        out("", "abcdef", 0, 3);
    }

    private static void farPartsOfAText() {
        int[] far = {Integer.MIN_VALUE, Integer.MIN_VALUE + 1, -6, -5, -1, 0, 1, 5, 6, Integer.MAX_VALUE - 1, Integer.MAX_VALUE};
        for (int b : far) {
            for (int c : far) {
                out(asked("abcde", b, c), "abcde", b, c);
            }
        }
    }

    private static void sixtyOfAText() {
        String sixty = Checks.of('x', 59) + "y";
        out("y", sixty, 60, 1);
        out("y", sixty, 60, 2);
        out("", sixty, 61, 1);
        out("y", sixty, -1, 1);
        out("xy", sixty, -1, 2);
        out("x", sixty, -60, 1);
        out("x", sixty, -60, 9);
        out("", sixty, -61, 9);
        out(sixty, sixty, 1, 60);
        out(sixty, sixty, 1, 61);
        out(sixty, sixty, -1, 60);
        out(sixty, sixty, -1, 61);
        out(sixty.substring(0, 59), sixty, 1, 59);
        out(sixty.substring(1), sixty, -1, 59);
    }
}
