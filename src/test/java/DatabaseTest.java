/** Promises 1 to 4: a new object, write, erase, read; and what a database is. */
public final class DatabaseTest {
    public static void main(String[] args) {
        newObject();
        write();
        erase();
        read();
        items();
        words();
        pieces();
        values();
        wrongPlaces();
        eighthWrong();
        limits();
        strings();
        Checks.end();
    }

    private static void newObject() {
        CiteForge x = new CiteForge();
        for (int what = 0; what < 5; what++) {
            Checks.due("promise 1: count " + what, 0, x.count(what));
        }
        for (int kind = 1; kind < 10; kind++) {
            Checks.due("promise 1: warnings " + kind, 0, x.warnings(kind));
        }
        Checks.due("promise 1: depth", 0, x.depth());
        Checks.due("promise 1: erase", 0, x.erase());
        Checks.due("promise 1: forget", 0, x.forget());
        Checks.due("promise 1: empty", 0, x.empty());
        Checks.due("promise 1: read", 0, x.read());
        Checks.due("promise 1: list", 0, x.list(1));
        Checks.due("promise 1: sort", false, x.sort());
        for (int function = 0; function < 6; function++) {
            Checks.due("promise 1: run", 0, x.run(function, 0));
            Checks.due("promise 1: clear", 0, x.clear(function));
        }
        for (int global = 0; global < 4; global++) {
            Checks.due("promise 1: global " + global, "0", Checks.stack(Checks.ran(17, global)));
        }
    }

    private static void write() {
        CiteForge x = new CiteForge();
        Checks.due("promise 2: one", 1, x.write('@', 1));
        Checks.due("promise 2: eight", 9, x.write(Checks.bytes("~ \n}z{09"), 8));
        Checks.due("promise 2: bytes above n are free", 10, x.write(0xffff00L << 8 | 'a', 1));
        for (int n : new int[] {0, 9, -1, Integer.MIN_VALUE, Integer.MAX_VALUE}) {
            Checks.dueThrow("promise 2: n " + n, IllegalArgumentException.class, () -> x.write(Checks.bytes("aaaaaaaa"), n));
        }
        for (long c : new long[] {0, 9, 11, 13, 31, 127, 128, 255}) {
            Checks.dueThrow("promise 2: byte " + c, IllegalArgumentException.class, () -> x.write(c, 1));
            Checks.dueThrow("promise 2: upper byte " + c, IllegalArgumentException.class,
                () -> x.write(c << 56 | Checks.bytes("aaaaaaa"), 8));
        }
        Checks.due("promise 2: what threw changed nothing", 10, x.erase());
        Checks.write(x, Checks.of('x', 316));
        Checks.dueThrow("promise 2: 321", IllegalStateException.class, () -> x.write(Checks.bytes("aaaaa"), 5));
        Checks.dueThrow("promise 2: no character comes first", IllegalArgumentException.class, () -> x.write(0, 8));
        Checks.due("promise 2: 320", 320, x.write(Checks.bytes("aaaa"), 4));
        Checks.dueThrow("promise 2: full", IllegalStateException.class, () -> x.write('a', 1));
    }

    private static void erase() {
        CiteForge x = Checks.listed("@a{k,t=1}", 1, "k");
        Checks.due("promise 3: had", 9, x.erase());
        Checks.due("promise 3: again", 0, x.erase());
        Checks.due("promise 3: entries stay", 1, x.count(0));
        Checks.due("promise 3: list stays", "k", Checks.keys(x));
        Checks.due("promise 3: field stays", "1", Checks.field(x, 0, "t"));
        Checks.due("promise 3: read then", 0, x.read());
    }

    private static void read() {
        CiteForge x = Checks.listed("@string{s=1}@a{k,t=s}", 1, "k", "no");
        Checks.due("promise 4: list before", 1, x.count(1));
        Checks.due("promise 4: again", 1, x.read());
        Checks.due("promise 4: list is empty", 0, x.count(1));
        Checks.due("promise 4: citations stay", 2, x.count(4));
        Checks.due("promise 4: warnings stay", 1, x.warnings(6));
        x.erase();
        Checks.write(x, "@b{j,t=s}");
        Checks.due("promise 4: anew", 1, x.read());
        Checks.due("promise 4: no strings at first", 1, x.warnings(2));
        Checks.due("promise 4: the old entry is gone", 0, x.list(1));
    }

    private static void items() {
        CiteForge x = Checks.listed("junk } { \" , @ \n Book \n { \n K \n , t \n = \n 1 \n , \n } junk@b{J}@c{i,}", 1, "k", "j", "i");
        Checks.due("blanks between", "k j i", Checks.keys(x));
        Checks.due("blanks between: field", "1", Checks.field(x, 0, "T"));
        Checks.due("blanks between: warnings", 0, x.warnings(1));
        Checks.due("comment", 1, Checks.database("@comment{@a{k}}@COMMENT{\"").count(0));
        Checks.due("comment is nothing wrong", 0, Checks.database("@comment{@a{k}}@COMMENT{\"").warnings(1));
        Checks.due("comment without brace", 1, Checks.database("@comment @a{k}").warnings(1));
        Checks.due("comment without brace: reads on", 1, Checks.database("@comment @a{k}").count(0));
        Checks.due("text without entries", 0, Checks.database("a {b} \"c\"").warnings(1));
        Checks.due("capitals of the type string", "v", Checks.valueOf("@StRiNg{S=\"v\"}@a{k,t=s}", "t"));
        Checks.due("two commas", 0, Checks.database("@a{k,t=1,,}").count(0));
        Checks.due("a comma alone", 1, Checks.database("@a{k , }").count(0));
        Checks.due("no fields", 1, Checks.database("@a{k}").count(0));
        Checks.due("comma missing", 0, Checks.database("@a{k,t=1 u=2}").count(0));
    }

    private static void words() {
        Checks.due("eight characters", "abcde:-9", Checks.keys(Checks.listed("@12345678{ABCDE:-9}", 1, "abcde:-9")));
        Checks.due("the last letters and digits", "az:-09", Checks.keys(Checks.listed("@Z{AZ:-09}", 1, "aZ:-09")));
        Checks.due("a ninth in the key", 1, Checks.database("@a{abcdefghi}").warnings(1));
        Checks.due("a ninth in the type", 1, Checks.database("@abcdefghi{k}").warnings(1));
        Checks.due("a ninth in the field", 1, Checks.database("@a{k,abcdefghi=1}").warnings(1));
        CiteForge x = Checks.database("@a{k,t=abcdefghi}");
        Checks.due("a ninth in a piece", 1, x.warnings(1));
        Checks.due("the eight before are a word", 1, x.warnings(2));
        Checks.due("no word for the key", 1, Checks.database("@a{,t=1}").warnings(1));
        Checks.due("no word for the type", 1, Checks.database("@{k}").warnings(1));
        Checks.due("no word for the field", 1, Checks.database("@a{k,=1}").warnings(1));
        Checks.due("underline is in no word", 1, Checks.database("@a{k_1}").warnings(1));
        Checks.due("a field of digits", "5", Checks.valueOf("@a{k,12=5}", "12"));
    }

    private static void pieces() {
        Checks.due("nine digits", "012345678", Checks.valueOf("@a{k,t=012345678}", "t"));
        Checks.due("ten digits", "no entry", Checks.valueOf("@a{k,t=0123456789}", "t"));
        Checks.due("letters behind digits", "no entry", Checks.valueOf("@a{k,t=1a}", "t"));
        Checks.due("a word with a sign", 1, Checks.database("@a{k,t=-1}").warnings(2));
        Checks.due("unknown word means nothing", "", Checks.valueOf("@a{k,t=zz}", "t"));
        Checks.due("braces", "a{b{c}}\"@,#=", Checks.valueOf("@a{k,t={a{b{c}}\"@,#=}}", "t"));
        Checks.due("braces with nothing", "", Checks.valueOf("@a{k,t={}}", "t"));
        Checks.due("quotation", "a{\"}b@", Checks.valueOf("@a{k,t=\"a{\"}b@\"}", "t"));
        Checks.due("quotation with nothing", "", Checks.valueOf("@a{k,t=\"\"}", "t"));
        Checks.due("joined", "1xy2", Checks.valueOf("@a{k,t=1#{x} # \"y\"\n#2}", "t"));
        Checks.due("nothing behind #", 1, Checks.database("@a{k,t=1#}").warnings(1));
        Checks.due("nothing before #", 1, Checks.database("@a{k,t=#1}").warnings(1));
        Checks.due("no piece", 1, Checks.database("@a{k,t=}").warnings(1));
    }

    private static void values() {
        Checks.due("rows of blanks", "a b c", Checks.valueOf("@a{k,t={ \n a \n\n b  c \n}}", "t"));
        Checks.due("rows over pieces", "a b", Checks.valueOf("@a{k,t={a }#{ }#{ b}}", "t"));
        Checks.due("no blank is made", "ab", Checks.valueOf("@a{k,t={a}#{b}}", "t"));
        Checks.due("blanks alone", "", Checks.valueOf("@a{k,t={ \n }#\"  \"}", "t"));
        String sixty = Checks.of('x', 60);
        Checks.due("sixty", sixty, Checks.valueOf("@a{k,t={" + sixty + "}}", "t"));
        Checks.due("sixty: no warning", 0, Checks.database("@a{k,t={  " + sixty + "  }}").warnings(3));
        Checks.due("sixty-one", sixty, Checks.valueOf("@a{k,t={" + sixty + "y}}", "t"));
        Checks.due("sixty-one: warning", 1, Checks.database("@a{k,t={" + sixty + "y}}").warnings(3));
        String cut = Checks.of('x', 59);
        Checks.due("a space may be the sixtieth", cut + " ", Checks.valueOf("@a{k,t={" + cut + "  y}}", "t"));
        Checks.due("a space behind sixty", sixty, Checks.valueOf("@a{k,t={" + sixty + " y}}", "t"));
        Checks.due("warning 3 once for a value", 1, Checks.database("@a{k,t={" + sixty + "}#1#2#3}").warnings(3));
        CiteForge x = Checks.database("@a{k,t={" + sixty + "y}?}@string{s={" + sixty + "z}}@b{k2,u=s}");
        Checks.due("warning 3 of what is forgotten stays", 2, x.warnings(3));
        Checks.due("entry with a wrong end is forgotten", 1, x.count(0));
        x = Checks.database("@a{k,t={" + sixty + "y}#?}@b{j,t={" + sixty + "}#{" + sixty);
        Checks.due("what is no whole value is not too long", 0, x.warnings(3));
    }

    private static void wrongPlaces() {
        CiteForge x = Checks.listed("@a{k,t=\"x}@b{j}", 1, "k", "j");
        Checks.due("a brace too many in a quotation", "j", Checks.keys(x));
        x = Checks.listed("@a{k,t=\"{x@b{j}\"}", 1, "k", "j");
        Checks.due("a quotation that has no end goes to the text's end", "", Checks.keys(x));
        Checks.due("it is one warning", 1, x.warnings(1));
        Checks.due("braces that have no end", 1, Checks.database("@a{k,t={x}@b{j}").warnings(1));
        x = Checks.listed("@a{k @b{j @c{i} @", 1, "k", "j", "i");
        Checks.due("the wrong one may be the next @", "i", Checks.keys(x));
        Checks.due("the text's end is wrong, too", 3, x.warnings(1));
        x = Checks.database("@a{k,t=zz,u=?}");
        Checks.due("its warnings are not forgotten", 1, x.warnings(2));
        x = Checks.listed("@a{k,t=1?}@a{k,u=2}", 1, "k");
        Checks.due("what is forgotten is no key that is there", 0, x.warnings(4));
        Checks.due("nor are its fields", "missing", Checks.field(x, 0, "t"));
        x = Checks.listed("@string{s=1@a{k,t=s}", 1, "k");
        Checks.due("a string without its brace is forgotten", 1, x.warnings(2));
        Checks.due("parentheses are something else", 1, Checks.database("@a(k)").warnings(1));
        Checks.due("@ before @", 1, Checks.database("@@a{k}").count(0));
    }

    private static void eighthWrong() {
        Checks.due("seven wrong: reads on", 1, Checks.database("@?@?@?@?@?@?@?@a{k}").count(0));
        CiteForge x = Checks.database("@?@?@?@?@?@?@?@?@a{k}@?");
        Checks.due("eight wrong: no more", 0, x.count(0));
        Checks.due("eight wrong: warnings", 8, x.warnings(1));
        x.read();
        Checks.due("eight of each reading", 16, x.warnings(1));
        x = Checks.database("@a{k}@?@?@?@?@?@?@?@?@a{j}");
        Checks.due("what was read before stays", 1, x.count(0));
    }

    private static void limits() {
        String eight = "@a{1}@a{2}@a{3}@a{4}@a{5}@a{6}@a{7}@a{8}";
        CiteForge x = Checks.database(eight + "@a{9}@a{1,t=1}@a{10}");
        Checks.due("eight entries", 8, x.count(0));
        Checks.due("more are warned of", 2, x.warnings(5));
        Checks.due("the same key is asked first", 1, x.warnings(4));
        x = Checks.listed("@a{K,t=1}@b{k,t=2,u=zz}", 1, "k");
        Checks.due("the first one stays", "1", Checks.field(x, 0, "t"));
        Checks.due("the same key, in capitals", 1, x.warnings(4));
        Checks.due("its warnings count", 1, x.warnings(2));
        x = Checks.listed("@a{k,a=1,b=2,A=3,c=4,d=5,e=6,f=7,g=8,b=9,h=zz}", 1, "k");
        Checks.due("the first six fields", "1 2 4 5 6 7 missing missing", sixFields(x));
        Checks.due("warnings of those left out count", 1, x.warnings(2));
        Checks.due("fields left out are no warning", 0, x.warnings(5));
    }

    private static String sixFields(CiteForge x) {
        StringBuilder all = new StringBuilder();
        for (char c = 'a'; c <= 'h'; c++) {
            all.append(c == 'a' ? "" : " ").append(Checks.field(x, 0, String.valueOf(c)));
        }
        return all.toString();
    }

    private static void strings() {
        Checks.due("a word may mean another value later", "12", Checks.valueOf("@string{s=1}@string{S=s#2}@a{k,t=s}", "t"));
        Checks.due("the value of then", "1", Checks.valueOf("@string{s=1}@a{k,t=s}@string{s=2}", "t"));
        Checks.due("strings and keys are apart", 0, Checks.database("@string{k=1}@a{k}").warnings(4));
        StringBuilder nine = new StringBuilder();
        for (char c = 'a'; c <= 'i'; c++) {
            nine.append("@string{").append(c).append("=1}");
        }
        CiteForge x = Checks.listed(nine + "@string{a=2}@x{k,t=a#h#i}", 1, "k");
        Checks.due("a ninth word is warned of", 1, x.warnings(5));
        Checks.due("a ninth word means nothing", 1, x.warnings(2));
        Checks.due("an old word may still change", "21", Checks.field(x, 0, "t"));
        Checks.due("a string's word may begin with a digit", 0, Checks.database("@string{1s=1}").warnings(1));
        Checks.due("a string has no comma", 1, Checks.database("@string{s=1,}").warnings(1));
        Checks.due("a string has a value", 1, Checks.database("@string{s}").warnings(1));
    }
}
