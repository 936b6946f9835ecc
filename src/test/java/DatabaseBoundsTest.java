import java.util.function.Function;

/** The bounds that 'Terms' names for a database, sentence by sentence: at the bound, one below it, one above it. */
public final class DatabaseBoundsTest {
    // All that an entry may have; each sign stands alone, so that blanks may stand at every place of it.
    private static final String ENTRY = "@a{k,t=1#s#{x}#\"y\",u=2,}";
    private static final int BRACED = ENTRY.indexOf("{x}") + 1;
    private static final int QUOTED = ENTRY.indexOf("\"y\"") + 1;

    public static void main(String[] args) {
        atMost320();
        characters();
        oneToEight();
        wordCharacters();
        capitalsAsSmallLetters();
        blanksBetween();
        passedOver();
        stringType();
        commentType();
        anyTimesFields();
        anyTimesPieces();
        oneToNineDigits();
        wordPieces();
        bracedPieces();
        quotedPieces();
        rowsOfBlanks();
        first60();
        somethingElse();
        textEnds();
        readOnThere();
        eighthWarning();
        keyThereAlready();
        eightEntries();
        eightStrings();
        sixFields();
        anotherValueLater();
        Checks.end();
    }

    private static void entries(String what, int want, String text) {
        Checks.due(what + ": entries", want, Checks.database(text).count(0));
    }

    private static void wrong(String what, int want, String text) {
        Checks.due(what + ": warnings 1", want, Checks.database(text).warnings(1));
    }

    /** A text that is read without a warning of any kind. */
    private static void whole(String what, int want, String text) {
        CiteForge x = Checks.database(text);
        Checks.due(what + ": entries", want, x.count(0));
        for (int kind = 1; kind <= 9; kind++) {
            Checks.due(what + ": warnings " + kind, 0, x.warnings(kind));
        }
    }

    private static void forgotten(String what, String text) {
        entries(what, 0, text);
        wrong(what, 1, text);
    }

    private static CiteForge filled(int many) {
        CiteForge x = new CiteForge();
        Checks.write(x, Checks.of('x', many));
        return x;
    }

    private static void atMost320() {
        Checks.due("320: one below", 319, filled(318).write('a', 1));
        Checks.due("320: at it", 320, filled(319).write('a', 1));
        Checks.dueThrow("320: one above", IllegalStateException.class, () -> filled(320).write('a', 1));
        long eight = Checks.bytes("aaaaaaaa");
        Checks.due("320: eight to it", 320, filled(312).write(eight, 8));
        for (int many = 313; many <= 320; many++) {
            CiteForge x = filled(many);
            Checks.dueThrow("320: eight behind " + many, IllegalStateException.class, () -> x.write(eight, 8));
            Checks.due("320: none of the eight came behind " + many, many, x.erase());
            Checks.due("320: room again", 8, x.write(eight, 8));
        }
        String last = Checks.of(' ', 315) + "@a{k}";
        Checks.due("320: all are there", 320, last.length());
        whole("320: the last one is read", 1, last);
        wrong("320: one that would end behind", 1, " " + last.substring(0, 319));
    }

    private static boolean isCharacter(int c) {
        return c == 10 || c >= 32 && c <= 126;
    }

    private static void characters() {
        for (int c = 0; c < 256; c++) {
            for (int n = 1; n <= 8; n++) {
                oneCharacter(c, n);
            }
        }
    }

    /** A byte at the n-th place, with letters before and behind it. */
    private static void oneCharacter(long c, int n) {
        CiteForge x = new CiteForge();
        int shift = 8 * (n - 1);
        long eight = Checks.bytes("aaaaaaaa") & ~(255L << shift) | c << shift;
        if (isCharacter((int) c)) {
            Checks.due("32 .. 126, and 10: " + c, n, x.write(eight, n));
        } else {
            Checks.dueThrow("32 .. 126, and 10: " + c, IllegalArgumentException.class, () -> x.write(eight, n));
            Checks.due("32 .. 126, and 10: nothing of it came", 0, x.erase());
        }
        if (n > 1) {
            Checks.due("a byte that is not written is free: " + c, n - 1, new CiteForge().write(eight, n - 1));
        }
    }

    private static void oneToEight() {
        lengthsOf("type", 0, word -> "@" + word + "{k}");
        lengthsOf("key", 0, word -> "@a{" + word + "}");
        lengthsOf("key before a comma", 0, word -> "@a{" + word + ",t=1}");
        lengthsOf("field", 0, word -> "@a{k," + word + "=1}");
        lengthsOf("string's word", 0, word -> "@string{" + word + "=1}@a{k}");
        lengthsOf("piece", 1, word -> "@a{k,t=" + word + "}");
        lengthsOf("piece behind #", 1, word -> "@a{k,t=1#" + word + "}");
    }

    /** A word of one and of eight is one, of none and of nine is not; unknown ones as pieces are warned of. */
    private static void lengthsOf(String what, int unknown, Function<String, String> text) {
        boolean ofString = what.startsWith("string");
        for (int many : new int[] {0, 1, 7, 8, 9, 10, 16}) {
            CiteForge x = Checks.database(text.apply(Checks.of('w', many)));
            boolean word = many >= 1 && many <= 8;
            Checks.due(what + " of " + many + ": warnings 1", word ? 0 : 1, x.warnings(1));
            Checks.due(what + " of " + many + ": entries", word || ofString ? 1 : 0, x.count(0));
            Checks.due(what + " of " + many + ": warnings 2", many == 0 ? 0 : unknown, x.warnings(2));
        }
    }

    private static void wordCharacters() {
        for (char c = 32; c < 127; c++) {
            boolean inWord = c >= '0' && c <= '9' || c >= 'A' && c <= 'Z' || c >= 'a' && c <= 'z' || c == ':' || c == '-';
            int read = inWord ? 1 : 0;
            // A "}" ends the entry, and an "@" begins another one.
            entries("a key with " + c, c == '}' ? 1 : read, "@a{x" + c + "y}");
            entries("a field with " + c, read, "@a{k,x" + c + "y=1}");
            entries("a type with " + c, c == '@' ? 1 : read, "@x" + c + "y{k}");
        }
    }

    private static void capitalsAsSmallLetters() {
        CiteForge x = Checks.listed("@STRING{AZ=7}@AZaz{AZaz,AZaz=az}@b{azAZ}", 1, "azaz");
        Checks.due("capitals: the key", "azaz", Checks.keys(x));
        Checks.due("capitals: the field and the string", "7", Checks.field(x, 0, "azAZ"));
        Checks.due("capitals: the same key", 1, x.warnings(4));
        x.define(0, 19, 0);
        x.run(0, 1);
        Checks.due("capitals: the type", "\"azaz\"", Checks.stack(x));
        Checks.due("capitals stay in a value", "AZaz", Checks.valueOf("@a{k,t={AZaz}}", "t"));
    }

    private static String inserted(int place, String what) {
        return ENTRY.substring(0, place) + what + ENTRY.substring(place);
    }

    private static boolean isContent(int place) {
        return place == BRACED || place == BRACED + 1 || place == QUOTED || place == QUOTED + 1;
    }

    private static void blanksBetween() {
        for (String blanks : new String[] {" ", "\n", " \n ", "\n\n  "}) {
            for (int place = 0; place <= ENTRY.length(); place++) {
                CiteForge x = Checks.listed("@string{s=5}" + inserted(place, blanks), 1, "k");
                Checks.due("blanks at " + place + ": warnings", 0, x.warnings(1));
                String between = Checks.field(x, 0, "t");
                Checks.due("blanks at " + place, "15xy", isContent(place) ? between.replace(" ", "") : between);
                Checks.due("blanks at " + place + ": behind", "2", Checks.field(x, 0, "u"));
            }
        }
        forgotten("a blank within a type", "@a a{k}");
        forgotten("a blank within a key", "@a{k k}");
        forgotten("a line end within a field", "@a{k,t\nt=1}");
        forgotten("a blank within digits", "@a{k,t=1 1}");
        forgotten("a blank within a piece's word", "@string{ss=1}@a{k,t=s s}");
    }

    private static void passedOver() {
        whole("a text of nothing", 0, "");
        whole("no @", 0, "a{k,t=1} } \" { \n ~");
        whole("all before @", 1, "{ \" } = # a{k @a{k}");
        whole("all behind the brace", 1, "@a{k} } , t=1 { \"");
        wrong("@ alone", 1, "@");
        wrong("@ at the end", 1, "@a{k}@");
    }

    private static void stringType() {
        whole("a string is no entry", 0, "@string{s=1}");
        Checks.due("its word means the value from then on", 1, Checks.database("@a{k,t=s}@string{s=1}@b{j,t=s}").warnings(2));
        forgotten("no word", "@string{=1}");
        forgotten("no =", "@string{s 1}");
        forgotten("no value", "@string{s=}");
        forgotten("no }", "@string{s=1");
        forgotten("a comma before }", "@string{s=1,}");
        whole("a type that begins so", 1, "@strings{k}");
        whole("a type with less", 1, "@strin{k}");
    }

    private static void commentType() {
        whole("a comment", 0, "@comment{");
        whole("a comment with all sorts of things", 1, "@comment{ } = # \" @a{k}");
        forgotten("a comment without {", "@comment");
        forgotten("a comment with something else", "@comment}");
        whole("a type that begins so", 1, "@comments{k}");
        whole("a type with less", 1, "@commen{k}");
    }

    private static void anyTimesFields() {
        whole("no field", 1, "@a{k}");
        whole("no field and a comma", 1, "@a{k,}");
        whole("a field", 1, "@a{k,t=1}");
        whole("a field and a comma", 1, "@a{k,t=1,}");
        forgotten("two commas alone", "@a{k,,}");
        forgotten("a field and two commas", "@a{k,t=1,,}");
        forgotten("two commas between", "@a{k,t=1,,u=1}");
        forgotten("a comma before the key", "@a{,k}");
        forgotten("fields without a key", "@a{t=1}");
        // 3 + 1 + 78 * 4 + 1 = 317: as many as there is room for.
        whole("78 fields", 1, "@a{k" + ",t=1".repeat(78) + "}");
    }

    private static void anyTimesPieces() {
        Checks.due("one piece", "1", Checks.valueOf("@a{k,t=1}", "t"));
        Checks.due("two pieces", "12", Checks.valueOf("@a{k,t=1#2}", "t"));
        Checks.due("60 pieces", Checks.of('1', 60), Checks.valueOf("@a{k,t=1" + "#1".repeat(59) + "}", "t"));
        whole("60 pieces", 1, "@a{k,t=1" + "#1".repeat(59) + "}");
        // 7 + 1 + 155 * 2 + 1 = 319: as many as there is room for.
        CiteForge x = Checks.database("@a{k,t=1" + "#1".repeat(155) + "}");
        Checks.due("156 pieces", 1, x.count(0));
        Checks.due("156 pieces are one value", 1, x.warnings(3));
        forgotten("no piece", "@a{k,t=}");
        forgotten("no piece behind #", "@a{k,t=1#}");
        forgotten("no piece between", "@a{k,t=1##1}");
        forgotten("no # between", "@a{k,t=1{2}}");
        forgotten("no # between words", "@a{k,t={2}\"1\"}");
    }

    private static void oneToNineDigits() {
        for (int many = 1; many <= 9; many++) {
            Checks.due(many + " digits", Checks.of('9', many), Checks.valueOf("@a{k,t=" + Checks.of('9', many) + "}", "t"));
        }
        forgotten("a tenth digit", "@a{k,t=1234567890}");
        forgotten("an eleventh digit", "@a{k,t=12345678901}");
        Checks.due("nine and nine", "123456789123456789", Checks.valueOf("@a{k,t=123456789#123456789}", "t"));
        Checks.due("0 and 9", "0090", Checks.valueOf("@a{k,t=0090}", "t"));
        forgotten("a letter behind digits", "@a{k,t=12a}");
        forgotten("a sign behind digits", "@a{k,t=12:}");
        Checks.due("digits are not looked up", 0, Checks.database("@string{1=2}@a{k,t=1}").warnings(2));
        Checks.due("digits mean themselves", "1", Checks.valueOf("@string{1=2}@a{k,t=1}", "t"));
    }

    private static void wordPieces() {
        Checks.due("a word of eight", "5", Checks.valueOf("@string{abcdefg8=5}@a{k,t=ABCDEFG8}", "t"));
        Checks.due("a word that begins with :", "5", Checks.valueOf("@string{:=5}@a{k,t=:}", "t"));
        Checks.due("a word that begins with -", "5", Checks.valueOf("@string{-1=5}@a{k,t=-1}", "t"));
        forgotten("a word that begins with a digit", "@string{1a=5}@a{k,t=1a}");
        CiteForge x = Checks.listed("@string{s=5}@a{k,t=s#z#s#y}", 1, "k");
        Checks.due("a word that nobody told means nothing", "55", Checks.field(x, 0, "t"));
        Checks.due("each time it is warned of", 2, x.warnings(2));
        x = Checks.listed("@string{s={}}@a{k,t=s}", 1, "k");
        Checks.due("a word that means nothing was told", 0, x.warnings(2));
        Checks.due("a text of nothing", "", Checks.field(x, 0, "t"));
        x = Checks.database("@string{abcdefgh=5}@a{k,t=abcdefghi}");
        Checks.due("eight before a ninth are known", 0, x.warnings(2));
        Checks.due("the ninth is something else", 1, x.warnings(1));
    }

    private static void bracedPieces() {
        Checks.due("no characters", "", Checks.valueOf("@a{k,t={}}", "t"));
        Checks.due("braces within", "{}", Checks.valueOf("@a{k,t={{}}}", "t"));
        Checks.due("in a row", "{}a{{}}", Checks.valueOf("@a{k,t={{}a{{}}}}", "t"));
        Checks.due("a quotation mark within", "\"", Checks.valueOf("@a{k,t={\"}}", "t"));
        String deep = "@a{k,t=" + Checks.of('{', 150) + "x" + Checks.of('}', 150);
        Checks.due("150 deep", Checks.of('{', 60), Checks.valueOf(deep + "}", "t"));
        forgotten("150 deep, without the entry's }", deep);
        forgotten("not closed", "@a{k,t={{x}");
        entries("not closed: wrong at the text's end", 0, "@a{k,t={x @b{j}");
        wrong("not closed: one warning", 1, "@a{k,t={x @b{j} @c{i}");
        whole("one } more is behind the entry", 1, "@a{k,t={x}}}");
        forgotten("} without {", "@a{k,t=}}");
    }

    private static void quotedPieces() {
        Checks.due("no characters", "", Checks.valueOf("@a{k,t=\"\"}", "t"));
        Checks.due("braces within", "{}{{}}", Checks.valueOf("@a{k,t=\"{}{{}}\"}", "t"));
        Checks.due("a mark within braces", "{\"}", Checks.valueOf("@a{k,t=\"{\"}\"}", "t"));
        Checks.due("marks within two braces", "{{\"}\"}", Checks.valueOf("@a{k,t=\"{{\"}\"}\"}", "t"));
        forgotten("not closed", "@a{k,t=\"x");
        forgotten("a brace not closed", "@a{k,t=\"{x\"}");
        entries("a } more: wrong at it", 1, "@a{k,t=\"x}\"@b{j}");
        entries("a } more behind braces: wrong at it", 1, "@a{k,t=\"{x}}\"@b{j}");
        wrong("a } more: one warning", 1, "@a{k,t=\"x}\"@b{j}");
        entries("what is before that } is passed over", 1, "@a{k,t=\"@b{i}}@c{j}");
        Checks.due("what is before that }", "j", Checks.keys(Checks.listed("@a{k,t=\"@b{i}}@c{j}", 1, "i", "j")));
        entries("not closed: wrong at the text's end", 0, "@a{k,t=\"x @b{j}");
    }

    private static void rowsOfBlanks() {
        Checks.due("one blank", "a b", Checks.valueOf("@a{k,t={a b}}", "t"));
        Checks.due("a line end", "a b", Checks.valueOf("@a{k,t={a\nb}}", "t"));
        Checks.due("many blanks", "a b", Checks.valueOf("@a{k,t={a \n \n b}}", "t"));
        Checks.due("at its beginning", "a", Checks.valueOf("@a{k,t={ a}}", "t"));
        Checks.due("at its end", "a", Checks.valueOf("@a{k,t={a\n}}", "t"));
        Checks.due("blanks alone", "", Checks.valueOf("@a{k,t={ \n }}", "t"));
        Checks.due("a row of two pieces", "a b", Checks.valueOf("@a{k,t={a }#\" b\"}", "t"));
        Checks.due("a row that a string begins", "a b", Checks.valueOf("@string{s={a}}@a{k,t=s#{ }#{ b}}", "t"));
        Checks.due("no row at all", "ab", Checks.valueOf("@a{k,t={a}#{}#{b}}", "t"));
        Checks.due("within braces, too", "{ a b }", Checks.valueOf("@a{k,t={{  a  b  }}}", "t"));
        Checks.due("~ is no blank", "a~~b", Checks.valueOf("@a{k,t={a~~b}}", "t"));
        Checks.due("a string's own are left out before", "ab", Checks.valueOf("@string{s={ a }}@a{k,t=s#{b}}", "t"));
    }

    /** A value of x and what follows: how much of it stays, and whether it is warned of. */
    private static void cut(String what, int xs, String rest, String stays, int warnings) {
        String text = "@a{k,t={" + Checks.of('x', xs) + rest + "}}";
        Checks.due("60: " + what, Checks.of('x', Math.min(xs, 60)) + stays, Checks.valueOf(text, "t"));
        Checks.due("60: " + what + ": warnings 3", warnings, Checks.database(text).warnings(3));
    }

    private static void first60() {
        cut("one below", 59, "", "", 0);
        cut("at it", 60, "", "", 0);
        cut("one above", 61, "", "", 1);
        cut("far above", 200, "", "", 1);
        cut("blanks at the end do not count", 60, " \n ", "", 0);
        cut("a blank is the 60th at the end", 59, " ", "", 0);
        cut("a blank is the 60th", 59, " y", " ", 1);
        cut("a blank is the 61st", 60, " y", "", 1);
        cut("a row of blanks counts as one", 58, "   y", " y", 0);
        cut("braces count", 58, "{}", "{}", 0);
        cut("braces are cut", 59, "{}", "{", 1);
        String text = "@a{k,t={  " + Checks.of('x', 60) + "}}";
        Checks.due("60: blanks at the beginning do not count", 0, Checks.database(text).warnings(3));
        text = "@string{s={" + Checks.of('x', 61) + "}}@a{k,t=s,u=s#s}";
        Checks.due("60: of a string, and of each value", 2, Checks.database(text).warnings(3));
        text = "@a{k,t={" + Checks.of('x', 61) + "},t={" + Checks.of('x', 61) + "}}";
        Checks.due("60: also of a field that is left out", 2, Checks.database(text).warnings(3));
        for (String end : new String[] {"", "\"", "{", "?", "\"}"}) {
            text = "@a{k,t={" + Checks.of('x', 61) + "}#" + end;
            Checks.due("60: not of what is no whole value, " + end, 0, Checks.database(text).warnings(3));
            text = "@a{k,t={" + Checks.of('x', 60) + "}#" + end;
            Checks.due("60: not of 60 and what is no piece, " + end, 0, Checks.database(text).warnings(3));
        }
        text = "@a{k,t={" + Checks.of('x', 61) + "}?}";
        Checks.due("60: of a whole value with something else behind it", 1, Checks.database(text).warnings(3));
    }

    private static void somethingElse() {
        for (String sign : new String[] {"?", "(", "_", "~"}) {
            for (int place = 0; place <= ENTRY.length(); place++) {
                CiteForge x = Checks.database("@string{s=5}" + inserted(place, sign) + "@b{j}");
                boolean free = place == 0 || place == ENTRY.length() || isContent(place);
                Checks.due("something else at " + place, free ? 0 : 1, x.warnings(1));
                Checks.due("something else at " + place + ": entries", free ? 2 : 1, x.count(0));
            }
        }
    }

    private static void textEnds() {
        for (String text : new String[] {ENTRY, "@string{s=1#s#{x}#\"y\"}", "@comment{"}) {
            for (int end = 1; end < text.length(); end++) {
                CiteForge x = Checks.database(text.substring(0, end));
                Checks.due("the text ends at " + end + " of " + text, 1, x.warnings(1));
                Checks.due("forgotten: the text ends at " + end + " of " + text, 0, x.count(0));
            }
            wrong("the text ends behind " + text, 0, text);
        }
    }

    private static void readOnThere() {
        for (int place = 1; place < ENTRY.length(); place++) {
            CiteForge x = Checks.listed("@string{s=5}" + inserted(place, "@b{j}"), 1, isContent(place) ? "k" : "j");
            Checks.due("the next @ at " + place, isContent(place) ? 0 : 1, x.warnings(1));
            Checks.due("the next @ at " + place + ": entries", 1, x.count(0));
            Checks.due("the next @ at " + place + ": its key", 1, x.count(1));
        }
        CiteForge x = Checks.listed("@a{k,t=zz,u={" + Checks.of('x', 61) + "},v=?,w=yy}@b{k,t=1}", 1, "k");
        Checks.due("what came is forgotten", "1", Checks.field(x, 0, "t"));
        Checks.due("what came is forgotten, all of it", "missing", Checks.field(x, 0, "u"));
        Checks.due("its key is not there", 0, x.warnings(4));
        Checks.due("its warnings 2 are not, nothing behind is read", 1, x.warnings(2));
        Checks.due("its warnings 3 are not", 1, x.warnings(3));
        x = Checks.listed("@string{s=1}@string{s=2?}@a{k,t=s}", 1, "k");
        Checks.due("a string means what it meant", "1", Checks.field(x, 0, "t"));
    }

    private static void eighthWarning() {
        for (int many = 0; many <= 10; many++) {
            CiteForge x = Checks.database("@a{i}" + "@?".repeat(many) + "@b{j,t=zz}");
            Checks.due(many + " wrong: warnings 1", Math.min(many, 8), x.warnings(1));
            Checks.due(many + " wrong: entries", many < 8 ? 2 : 1, x.count(0));
            Checks.due(many + " wrong: warnings 2", many < 8 ? 1 : 0, x.warnings(2));
            x.read();
            Checks.due(many + " wrong: anew in the next reading", 2 * Math.min(many, 8), x.warnings(1));
        }
        CiteForge x = Checks.database("@?".repeat(7) + "@string{s=1}@a{j,t=s}@");
        Checks.due("the eighth at the text's end", 8, x.warnings(1));
        Checks.due("what was read before the eighth", 1, x.count(0));
    }

    private static void keyThereAlready() {
        CiteForge x = Checks.listed("@a{k,t=1}@b{k,t=2}@c{K,t=3}@d{kk,t=4}", 1, "k", "kk");
        Checks.due("a key that is there: warnings", 2, x.warnings(4));
        Checks.due("a key that is there: entries", 2, x.count(0));
        Checks.due("a key that is there: the first stays", "1", Checks.field(x, 0, "t"));
        Checks.due("a key that begins so is another one", "4", Checks.field(x, 1, "t"));
        Checks.due("only whole entries are asked", 0, Checks.database("@a{k}@b{k,t=?}").warnings(4));
        x = Checks.database("@a{k}");
        x.read();
        Checks.due("the next reading begins without", 0, x.warnings(4));
    }

    private static String keyed(int many) {
        StringBuilder all = new StringBuilder();
        for (int i = 0; i < many; i++) {
            all.append("@a{").append((char) ('a' + i)).append('}');
        }
        return all.toString();
    }

    private static void eightEntries() {
        for (int many = 6; many <= 10; many++) {
            CiteForge x = Checks.database(keyed(many));
            Checks.due(many + " entries", Math.min(many, 8), x.count(0));
            Checks.due(many + " entries: the answer", Math.min(many, 8), x.read());
            Checks.due(many + " entries: warnings 5", 2 * Math.max(many - 8, 0), x.warnings(5));
        }
        CiteForge x = Checks.database(keyed(8) + "@a{h}@a{i}@a{i}@a{a}");
        Checks.due("the key is asked first", 2, x.warnings(4));
        Checks.due("what is forgotten has no key", 2, x.warnings(5));
        x = Checks.listed(keyed(9), 1, "h", "i");
        Checks.due("the eighth is there, the ninth is not", "h", Checks.keys(x));
        Checks.due("one that is wrong is not more", 0, Checks.database(keyed(8) + "@a{i,?}").warnings(5));
        Checks.due("a string is no entry", 0, Checks.database(keyed(8) + "@string{i=1}").warnings(5));
    }

    private static String told(int many) {
        StringBuilder all = new StringBuilder();
        for (int i = 0; i < many; i++) {
            all.append("@string{").append((char) ('a' + i)).append('=').append(i).append('}');
        }
        return all.toString();
    }

    private static void eightStrings() {
        for (int many = 6; many <= 10; many++) {
            CiteForge x = Checks.listed(told(many) + "@a{k,t=a#f#g#h#i#j}", 1, "k");
            Checks.due(many + " strings: warnings 5", Math.max(many - 8, 0), x.warnings(5));
            Checks.due(many + " strings: warnings 2", 10 - Math.min(many, 8), x.warnings(2));
            Checks.due(many + " strings", "0567".substring(0, Math.min(many, 8) - 4), Checks.field(x, 0, "t"));
        }
        CiteForge x = Checks.listed(told(8) + "@string{h=9}@string{A=8}@a{k,t=a#h}", 1, "k");
        Checks.due("eight strings: each may mean another value", "89", Checks.field(x, 0, "t"));
        Checks.due("eight strings: that is no ninth", 0, x.warnings(5));
        x.read();
        Checks.due("eight strings: the next reading begins without", 0, x.warnings(5));
    }

    private static void sixFields() {
        String five = "@a{k,a=1,b=2,c=3,d=4,e=5";
        Checks.due("six fields: one below", "12345??", letters(five + "}"));
        Checks.due("six fields: at it", "123456?", letters(five + ",f=6}"));
        Checks.due("six fields: one above", "123456?", letters(five + ",f=6,g=7}"));
        Checks.due("six fields: the same one does not count", "123456?", letters(five + ",a=7,e=8,f=6}"));
        Checks.due("six fields: the same one behind them", "123456?", letters(five + ",f=6,f=9,A=8,g=7}"));
        Checks.due("six fields: one that was too much stays out", "123456?", letters(five + ",f=6,g=7,g=8}"));
        whole("six fields: no warning", 1, five + ",f=6,g=7,a=8}");
        forgotten("six fields: a seventh must be right, too", five + ",f=6,g=}");
    }

    /** The fields a to g, with "?" for one that is missing. */
    private static String letters(String text) {
        CiteForge x = Checks.listed(text, 1, "k");
        StringBuilder all = new StringBuilder();
        for (char c = 'a'; c <= 'g'; c++) {
            String field = Checks.field(x, 0, String.valueOf(c));
            all.append(field.equals("missing") ? "?" : field);
        }
        return all.toString();
    }

    private static void anotherValueLater() {
        String text = "@string{s=1}@a{k,t=s}@string{S={}}@a{j,t=s#2}@string{s=3}@a{i,t=s}";
        CiteForge x = Checks.listed(text, 1, "k", "j", "i");
        Checks.due("a string's word: before", "1", Checks.field(x, 0, "t"));
        Checks.due("a string's word: then", "2", Checks.field(x, 1, "t"));
        Checks.due("a string's word: later", "3", Checks.field(x, 2, "t"));
        Checks.due("a string's word: no warnings", 0, x.warnings(2) + x.warnings(4) + x.warnings(5));
    }
}
