/** The bounds of citations, the list, its keys and fields: at the bound, one below it, one above it. */
public final class ListBoundsTest {
    public static void main(String[] args) {
        tenCitations();
        eachOnce();
        wordsOfCite();
        citationCharacters();
        keysOfEntries();
        minOfTheCited();
        crossrefNames();
        oneStepOfInheritance();
        eightInTheList();
        sortKeys();
        sortedByCharacters();
        wordsOfField();
        charactersOfAField();
        emptyList();
        Checks.end();
    }

    private static CiteForge cited(int many) {
        CiteForge x = new CiteForge();
        for (int i = 0; i < many; i++) {
            Checks.due("citation " + (i + 1), true, x.cite('a' + i));
        }
        return x;
    }

    private static void tenCitations() {
        for (int many = 0; many < 10; many++) {
            Checks.due("ten citations: one more than " + many, true, cited(many).cite('z'));
            Checks.due("ten citations: count", many, cited(many).count(4));
        }
        CiteForge x = cited(10);
        Checks.dueThrow("ten citations: the 11th", IllegalStateException.class, () -> x.cite('z'));
        Checks.due("ten citations: it is not cited", 10, x.count(4));
        for (int i = 0; i < 10; i++) {
            Checks.due("ten citations: one that is cited", false, x.cite('A' + i));
        }
        Checks.dueThrow("ten citations: no word", IllegalArgumentException.class, () -> x.cite(0));
        Checks.due("ten citations: all are forgotten", 10, x.forget());
        Checks.due("ten citations: room again", true, x.cite('z'));
    }

    private static void eachOnce() {
        CiteForge x = Checks.listed("@a{1}@a{2}", 1, "2", "1");
        Checks.due("each once: again", false, x.cite('2'));
        x.list(1);
        Checks.due("each once: the order is the first", "2 1", Checks.keys(x));
        x.forget();
        x.cite('1');
        x.cite('2');
        x.list(1);
        Checks.due("each once: forgotten, the order is new", "1 2", Checks.keys(x));
    }

    private static void wordsOfCite() {
        Checks.dueThrow("a word of none", IllegalArgumentException.class, () -> new CiteForge().cite(0));
        Checks.due("a word of one", true, new CiteForge().cite('a'));
        Checks.due("a word of eight", true, new CiteForge().cite(Checks.bytes("abcdefgh")));
        CiteForge x = cited(1);
        Checks.due("what is behind its end is free", false, x.cite('a' | 0xffffffffffff0000L));
        Checks.due("what is behind its end may be anything", false, x.cite('a' | 31L << 8 | (long) '@' << 16));
        Checks.due("what is behind its end: 127", false, x.cite('A' | 127L << 8 | (long) 'b' << 16));
        Checks.due("seven and eight are two words", true, x.cite(Checks.bytes("abcdefgh")) && x.cite(Checks.bytes("abcdefg")));
        Checks.due("the eighth in capitals", false, x.cite(Checks.bytes("ABCDEFGH")));
    }

    private static void citationCharacters() {
        for (int c = 0; c < 256; c++) {
            boolean inWord = c >= '0' && c <= '9' || c >= 'A' && c <= 'Z' || c >= 'a' && c <= 'z' || c == ':' || c == '-';
            boolean ends = c < 32 || c > 126;
            long alone = c;
            long second = 'a' | (long) c << 8;
            long eighth = Checks.bytes("abcdefg") | (long) c << 56;
            cites("alone " + c, inWord, alone);
            cites("second " + c, inWord || ends, second);
            cites("eighth " + c, inWord || ends, eighth);
        }
    }

    private static void cites(String what, boolean word, long bytes) {
        CiteForge x = new CiteForge();
        if (word) {
            Checks.due("a word: " + what, true, x.cite(bytes));
        } else {
            Checks.dueThrow("no word: " + what, IllegalArgumentException.class, () -> x.cite(bytes));
        }
        Checks.due("cited: " + what, word ? 1 : 0, x.count(4));
    }

    private static void keysOfEntries() {
        CiteForge x = Checks.listed("@a{1}", 1, "2", "1", "3", "4");
        Checks.due("keys of entries", "1", Checks.keys(x));
        Checks.due("a warning 6 for each that is none", 3, x.warnings(6));
        Checks.due("no citations, no list", 0, Checks.listed("@a{1}", 1).count(1));
        Checks.due("no citations, no warnings", 0, Checks.listed("@a{1}", 1).warnings(6));
        x = Checks.listed("", 1, "1");
        Checks.due("no entries: warnings", 1, x.warnings(6));
        Checks.due("no entries: the list", 0, x.count(1));
    }

    /** Three entries refer to p; as many of them as told are cited. */
    private static String referred(int many, int min) {
        CiteForge x = Checks.database("@a{p}@a{1,crossref={p}}@a{2,crossref={P}}@a{3,crossref=\"p\"}@a{q}");
        for (int i = 1; i <= many; i++) {
            x.cite('0' + i);
        }
        x.list(min);
        return Checks.keys(x);
    }

    private static void minOfTheCited() {
        String[] cited = {"", "1", "1 2", "1 2 3"};
        for (int many = 0; many <= 3; many++) {
            for (int min = 1; min <= 5; min++) {
                Checks.due(many + " refer, min " + min, cited[many] + (many >= min ? " p" : ""), referred(many, min));
            }
            Checks.due(many + " refer, the highest min", cited[many], referred(many, Integer.MAX_VALUE));
        }
        CiteForge x = Checks.listed("@a{p,crossref={g}}@a{g}@a{k,crossref={p}}", 1, "k");
        Checks.due("those that are not cited do not refer", "k p", Checks.keys(x));
        x = Checks.listed("@a{p}@a{k,crossref={p}}", 1, "p", "k");
        Checks.due("one that is cited comes once", "p k", Checks.keys(x));
        x = Checks.listed("@a{k,crossref={k}}", 1, "k");
        Checks.due("one that refers to itself comes once", "k", Checks.keys(x));
        x = Checks.listed("@a{c,crossref={no}}@a{d}", 1, "c");
        Checks.due("what is no key is not in the list", "c", Checks.keys(x));
        Checks.due("what is no key is not warned of", 0, x.warnings(6));
    }

    /** A crossref and a key: whether the one names the other. */
    private static void names(String what, boolean want, String crossref, String key) {
        CiteForge x = Checks.listed("@a{k,crossref={" + crossref + "}}@a{" + key + ",t=1}", 1, "k");
        Checks.due("crossref: " + what, want ? "1" : "missing", Checks.field(x, 0, "t"));
        Checks.due("crossref: " + what + ": the list", want ? 2 : 1, x.count(1));
    }

    private static void crossrefNames() {
        names("one character", true, "p", "p");
        names("eight characters", true, "abcdefgh", "abcdefgh");
        names("capitals", true, "ABCDEFGH", "abcdefgh");
        names("capitals of the key", true, "abc", "ABC");
        names("nine characters", false, "abcdefghi", "abcdefgh");
        names("nine characters, the ninth as the first", false, "abcdefgha", "abcdefgh");
        names("blanks round it", true, " p\n", "p");
        names("less than the key", false, "abcdefg", "abcdefgh");
        names("more than the key", false, "abcdefgh", "abcdefg");
        names("nothing", false, "", "p");
        names("braces", false, "{p}", "p");
        names("a blank within", false, "p q", "p");
        Checks.due("crossref of pieces", "1", Checks.field(Checks.listed("@a{k,crossref=1#{x}#2}@a{1x2,t=1}", 1, "k"), 0, "t"));
        oldCrossrefsAreGone();
        Checks.due("the first crossref counts", "1",
            Checks.field(Checks.listed("@a{k,crossref={p},crossref={q}}@a{p,t=1}@a{q,t=2}", 1, "k"), 0, "t"));
    }

    private static void oldCrossrefsAreGone() {
        CiteForge x = Checks.listed("@a{k,crossref={p}}@a{p,t=1}", 1, "k");
        x.erase();
        Checks.write(x, "@a{k}@a{p,t=1}");
        x.read();
        Checks.due("crossref of an entry that was read before: the list", 1, x.list(1));
        Checks.due("crossref of an entry that was read before", "missing", Checks.field(x, 0, "t"));
        x = Checks.listed("@a{k,crossref={p},?}@a{k}@a{p,t=1}", 1, "k");
        Checks.due("crossref of what is forgotten: the list", 1, x.count(1));
        Checks.due("crossref of what is forgotten", "missing", Checks.field(x, 0, "t"));
        x = Checks.listed("@a{k}@a{k,crossref={p}}@a{p,t=1}@a{j}", 1, "k", "j");
        Checks.due("crossref of an entry whose key was there", "k j", Checks.keys(x));
        Checks.due("crossref of an entry whose key was there: field", "missing", Checks.field(x, 1, "t"));
    }

    private static void oneStepOfInheritance() {
        CiteForge x = Checks.listed("@a{k,crossref={p},o=1,e={}}@a{p,crossref={g},o=2,e=2,i=2,n={}}@a{g,i=3,n=3,far=3}", 9, "k", "p");
        Checks.due("own", "1", Checks.field(x, 0, "o"));
        Checks.due("own, a text of nothing", "", Checks.field(x, 0, "e"));
        Checks.due("inherited", "2", Checks.field(x, 0, "i"));
        Checks.due("inherited, a text of nothing", "", Checks.field(x, 0, "n"));
        Checks.due("two steps", "missing", Checks.field(x, 0, "far"));
        Checks.due("one step from there", "3", Checks.field(x, 1, "far"));
        Checks.due("crossref is one's own", "p", Checks.field(x, 0, "crossref"));
        x = Checks.listed("@a{p,crossref={g}}@a{k,a=1}@a{g}", 9, "k", "p");
        Checks.due("no crossref, none inherited", "missing", Checks.field(x, 0, "crossref"));
        x = Checks.listed("@a{p,t=1}@a{k,a=1,b=1,c=1,d=1,e=1,crossref={p}}", 9, "k");
        Checks.due("a crossref that is the sixth field", "1", Checks.field(x, 0, "t"));
        x = Checks.listed("@a{p,t=1}@a{k,a=1,b=1,c=1,d=1,e=1,f=1,crossref={p}}", 1, "k");
        Checks.due("a crossref that is the seventh field", "missing", Checks.field(x, 0, "t"));
        Checks.due("a crossref that is the seventh field: the list", 1, x.count(1));
        x = Checks.listed("@a{k,crossref={k},t=1}", 9, "k");
        Checks.due("one that names itself", "1", Checks.field(x, 0, "t"));
        Checks.due("one that names itself, missing", "missing", Checks.field(x, 0, "u"));
    }

    private static void eightInTheList() {
        CiteForge x = Checks.listed("@a{1}@a{2}@a{3}@a{4}@a{5}@a{6}@a{7}@a{8}", 1, "8", "7", "6", "5", "4", "3", "2", "1", "a", "b");
        Checks.due("eight in the list", "8 7 6 5 4 3 2 1", Checks.keys(x));
        Checks.due("two are none", 2, x.warnings(6));
        x = Checks.listed("@a{1}@a{2}@a{3}@a{4}@a{5,crossref=4}@a{6,crossref=3}@a{7,crossref=2}@a{8,crossref=1}", 1, "8", "7", "6", "5");
        Checks.due("four and four that they refer to", "8 7 6 5 1 2 3 4", Checks.keys(x));
    }

    private static void sortKeys() {
        CiteForge x = Checks.listed("@a{c}@a{b}@a{a}", 1, "c", "b", "a");
        x.define(0, 18, 0);
        x.define(0, 20, 0);
        x.run(0, 1);
        Checks.due("sorted", true, x.sort());
        Checks.due("sorted: the order", "a b c", Checks.keys(x));
        Checks.due("sorted again", false, x.sort());
        Checks.due("the list anew", 3, x.list(1));
        Checks.due("its sort keys are nothing", false, x.sort());
        Checks.due("its order is that of citing", "c b a", Checks.keys(x));
        x.run(0, 1);
        x.read();
        x.list(1);
        Checks.due("read anew, they are nothing", false, x.sort());
        x.run(0, 0);
        Checks.due("without an entry at hand nothing gets one", false, x.sort());
    }

    /** Whether two entries with these sort keys change places. */
    private static void order(boolean change, String first, String second) {
        CiteForge x = Checks.listed("@a{1,s={" + first + "}}@a{2,s={" + second + "}}", 1, "1", "2");
        x.define(0, 2, 's');
        x.define(0, 20, 0);
        x.run(0, 1);
        Checks.due("sort: " + first + " and " + second, change, x.sort());
        Checks.due("sort: the order of " + first + " and " + second, change ? "2 1" : "1 2", Checks.keys(x));
    }

    private static void sortedByCharacters() {
        order(false, "a", "b");
        order(true, "b", "a");
        order(false, "a", "a");
        order(false, "", "a");
        order(true, "a", "");
        order(false, "", "");
        order(false, "ab", "abc");
        order(true, "abc", "ab");
        order(false, "abz", "ac");
        order(true, "a", "B");
        order(false, "Z", "a");
        order(false, "9", "A");
        order(false, "a b", "a!");
        order(true, "~", "|");
        String sixty = Checks.of('x', 59);
        order(true, sixty + "b", sixty + "a");
        order(false, sixty + "b", sixty + "b");
        CiteForge one = Checks.listed("@a{1}", 1, "1");
        Checks.due("sort: one alone", false, one.sort());
        threeWithEqualOnes();
    }

    private static void threeWithEqualOnes() {
        CiteForge x = Checks.listed("@a{1,s=b}@a{2,s=2}@a{3,s=1}@a{4,s=2}@a{5,s=1}", 1, "2", "4", "3", "5", "1");
        x.define(0, 2, 's');
        x.define(0, 20, 0);
        x.run(0, 2);
        Checks.due("sort: equal ones", true, x.sort());
        Checks.due("sort: equal ones as they were", "1 3 5 2 4", Checks.keys(x));
    }

    private static void wordsOfField() {
        CiteForge x = Checks.listed("@a{k,t=1,abcdefgh=2,a:-9=3}", 1, "k");
        Checks.due("a word of one", "1", Checks.field(x, 0, "T"));
        Checks.due("a word of eight", "2", Checks.field(x, 0, "ABCDEFGH"));
        Checks.due("a word with all sorts of signs", "3", Checks.field(x, 0, "A:-9"));
        Checks.due("a word of seven is another one", "missing", Checks.field(x, 0, "abcdefg"));
        Checks.due("no word", "missing", Checks.field(x, 0, "t."));
        Checks.due("a word of none", "missing", Checks.field(x, 0, ""));
        Checks.due("what is behind its end is free", (int) '1', x.field(0, 't' | 0xffffffffffff0000L, 0));
    }

    private static void charactersOfAField() {
        CiteForge x = Checks.listed("@a{k,t={" + Checks.of('x', 59) + "yz},u={},v=1}", 1, "k");
        Checks.due("the first character", (int) 'x', x.field(0, 't', 0));
        Checks.due("the 60th character", (int) 'y', x.field(0, 't', 59));
        for (int k : new int[] {-1, 60, 61, Integer.MIN_VALUE, Integer.MAX_VALUE}) {
            Checks.dueThrow("character " + k + " of 60", IndexOutOfBoundsException.class, () -> x.field(0, 't', k));
            Checks.dueThrow("character " + k + " of none", IndexOutOfBoundsException.class, () -> x.field(0, 'u', k));
        }
        Checks.dueThrow("character 0 of none", IndexOutOfBoundsException.class, () -> x.field(0, 'u', 0));
        Checks.due("character 0 of one", (int) '1', x.field(0, 'v', 0));
        Checks.dueThrow("character 1 of one", IndexOutOfBoundsException.class, () -> x.field(0, 'v', 1));
    }

    private static void emptyList() {
        CiteForge x = Checks.database("@a{k,t=1}");
        x.cite('k');
        Checks.dueThrow("no list yet: key", IndexOutOfBoundsException.class, () -> x.key(0));
        Checks.dueThrow("no list yet: field", IndexOutOfBoundsException.class, () -> x.field(0, 't', 0));
        Checks.due("no list yet: run", 0, x.run(0, 1));
        x.list(1);
        Checks.due("a list", Checks.bytes("k"), x.key(0));
        Checks.dueThrow("a list of one: key 1", IndexOutOfBoundsException.class, () -> x.key(1));
        Checks.dueThrow("a list of one: key -1", IndexOutOfBoundsException.class, () -> x.key(-1));
        x.read();
        Checks.dueThrow("read, the list is empty: key", IndexOutOfBoundsException.class, () -> x.key(0));
        Checks.dueThrow("read, the list is empty: field", IndexOutOfBoundsException.class, () -> x.field(0, 't', 0));
    }
}
