import java.util.NoSuchElementException;

/** Promises 5 to 10: cite, forget, list, key, sort, field. */
public final class CitationTest {
    private static final String FAMILY =
        "@a{p1,t=1,u={}}@a{p2,crossref={P1},v=2}@a{c1,crossref={P1},u=3}@a{c2,crossref=\" p1 \"}@a{c3,crossref={P2}}@a{c4,crossref={p1 x}}";

    public static void main(String[] args) {
        cite();
        forget();
        list();
        key();
        sort();
        field();
        inherited();
        Checks.end();
    }

    private static void cite() {
        CiteForge x = new CiteForge();
        Checks.due("promise 5: new", true, x.cite(Checks.bytes("Ab:-9")));
        Checks.due("promise 5: again", false, x.cite(Checks.bytes("aB:-9")));
        Checks.due("promise 5: up to what is no character", false, x.cite(Checks.bytes("ab:-9\0zz")));
        Checks.due("promise 5: a line end, too", false, x.cite(Checks.bytes("ab:-9\nz")));
        Checks.due("promise 5: eight", true, x.cite(Checks.bytes("abcdefgh")));
        for (String word : new String[] {"", "\0a", " a", "a ", "a b", "a_", "@", "~", "a,b", "{a}"}) {
            Checks.dueThrow("promise 5: " + word, IllegalArgumentException.class, () -> x.cite(Checks.bytes(word)));
        }
        Checks.dueThrow("promise 5: -1", IllegalArgumentException.class, () -> x.cite(-1L));
        for (int i = 0; i < 8; i++) {
            Checks.due("promise 5: ten", true, x.cite('0' + i));
        }
        Checks.dueThrow("promise 5: the 11th", IllegalStateException.class, () -> x.cite('z'));
        Checks.due("promise 5: one that is cited is no 11th", false, x.cite('7'));
        Checks.dueThrow("promise 5: no word comes first", IllegalArgumentException.class, () -> x.cite('_'));
        Checks.due("promise 5: count", 10, x.count(4));
    }

    private static void forget() {
        CiteForge x = Checks.listed("@a{k}", 1, "k", "j");
        Checks.due("promise 6: had", 2, x.forget());
        Checks.due("promise 6: none", 0, x.count(4));
        Checks.due("promise 6: the list stays", "k", Checks.keys(x));
        Checks.due("promise 6: again", 0, x.forget());
        Checks.due("promise 6: not cited before", true, x.cite('k'));
    }

    private static void list() {
        CiteForge x = Checks.listed("@a{1}@a{2}@a{3}", 1, "3", "no", "1", "No2");
        Checks.due("promise 7: in the order of citing", "3 1", Checks.keys(x));
        Checks.due("promise 7: warnings", 2, x.warnings(6));
        Checks.due("promise 7: again", 2, x.list(5));
        Checks.due("promise 7: warnings again", 4, x.warnings(6));
        for (int min : new int[] {0, -1, Integer.MIN_VALUE}) {
            Checks.dueThrow("promise 7: min " + min, IllegalArgumentException.class, () -> x.list(min));
        }
        Checks.due("promise 7: what threw left the list", "3 1", Checks.keys(x));
        Checks.due("promise 7: referred once", "c3 p2", Checks.keys(Checks.listed(FAMILY, 1, "c3")));
        Checks.due("promise 7: min 2", "c1 c3", Checks.keys(Checks.listed(FAMILY, 2, "c1", "c3")));
        Checks.due("promise 7: two refer", "c2 c1 p1", Checks.keys(Checks.listed(FAMILY, 2, "c2", "c1")));
        Checks.due("promise 7: database's order", "c3 c1 p1 p2", Checks.keys(Checks.listed(FAMILY, 1, "c3", "c1")));
        Checks.due("promise 7: cited itself", "c1 p1", Checks.keys(Checks.listed(FAMILY, 1, "c1", "p1")));
        Checks.due("promise 7: added ones do not refer", "c3 p2", Checks.keys(Checks.listed(FAMILY, 1, "c3", "zz")));
        Checks.due("promise 7: more than a key names none", "c4", Checks.keys(Checks.listed(FAMILY, 1, "c4")));
        Checks.due("promise 7: highest min", "c1", Checks.keys(Checks.listed(FAMILY, Integer.MAX_VALUE, "c1")));
        sortKeysAreNothing();
    }

    private static void sortKeysAreNothing() {
        CiteForge x = Checks.listed("@a{b}@a{a}", 1, "b", "a");
        x.define(0, 18, 0);
        x.define(0, 20, 0);
        x.run(0, 1);
        x.list(1);
        Checks.due("promise 7: sort keys are nothing", false, x.sort());
        Checks.due("promise 7: as cited", "b a", Checks.keys(x));
    }

    private static void key() {
        CiteForge x = Checks.listed("@a{ABCDEFGH}@a{x}", 1, "abcdefgh", "x");
        Checks.due("promise 8: eight", Checks.bytes("abcdefgh"), x.key(0));
        Checks.due("promise 8: one", (long) 'x', x.key(1));
        for (int i : new int[] {-1, 2, Integer.MAX_VALUE, Integer.MIN_VALUE}) {
            Checks.dueThrow("promise 8: " + i, IndexOutOfBoundsException.class, () -> x.key(i));
        }
    }

    private static void sort() {
        CiteForge x = Checks.listed("@a{1,s=bb}@a{2,s={ab}}@a{3,s={b}}@a{4,s={B}}@a{5}@a{6,s={ab}}@a{7,s={a b}}", 1,
            "1", "2", "3", "4", "5", "6", "7");
        x.define(0, 2, 's');
        x.define(0, 20, 0);
        Checks.due("promise 9: equal keys", false, x.sort());
        x.run(0, 1);
        Checks.due("promise 9: otherwise before", true, x.sort());
        Checks.due("promise 9: order", "1 5 4 7 2 6 3", Checks.keys(x));
        Checks.due("promise 9: again", false, x.sort());
        Checks.due("promise 9: order again", "1 5 4 7 2 6 3", Checks.keys(x));
        CiteForge two = Checks.listed("@a{b}@a{a}", 1, "b", "a");
        two.define(0, 18, 0);
        two.define(0, 20, 0);
        two.run(0, 2);
        Checks.due("promise 9: two", true, two.sort());
        Checks.due("promise 9: two in order", "a b", Checks.keys(two));
        Checks.due("promise 9: nothing to sort", false, new CiteForge().sort());
    }

    private static void field() {
        CiteForge x = Checks.listed("@a{k,t=\"Ab\",u={}}", 1, "k");
        Checks.due("promise 10: first", (int) 'A', x.field(0, Checks.bytes("t"), 0));
        Checks.due("promise 10: capitals", (int) 'b', x.field(0, Checks.bytes("T\0x"), 1));
        for (int k : new int[] {-1, 2, 60, Integer.MAX_VALUE, Integer.MIN_VALUE}) {
            Checks.dueThrow("promise 10: character " + k, IndexOutOfBoundsException.class, () -> x.field(0, 't', k));
        }
        Checks.dueThrow("promise 10: a text of nothing is there", IndexOutOfBoundsException.class, () -> x.field(0, 'u', 0));
        Checks.dueThrow("promise 10: missing", NoSuchElementException.class, () -> x.field(0, 'v', 0));
        Checks.dueThrow("promise 10: missing, any k", NoSuchElementException.class, () -> x.field(0, 'v', -1));
        for (long word : new long[] {0, -1, ' ', Checks.bytes("t u"), Checks.bytes("\0t")}) {
            Checks.dueThrow("promise 10: no word", NoSuchElementException.class, () -> x.field(0, word, 0));
        }
        for (int i : new int[] {-1, 1, Integer.MAX_VALUE, Integer.MIN_VALUE}) {
            Checks.dueThrow("promise 10: entry " + i, IndexOutOfBoundsException.class, () -> x.field(i, 't', 0));
            Checks.dueThrow("promise 10: entry first " + i, IndexOutOfBoundsException.class, () -> x.field(i, 0, 0));
        }
    }

    private static void inherited() {
        CiteForge x = Checks.listed(FAMILY, 1, "c1", "c2", "c3", "c4", "p1");
        Checks.due("own", "3", Checks.field(x, 0, "u"));
        Checks.due("of the one that is named", "1", Checks.field(x, 0, "t"));
        Checks.due("a text of nothing is one's own", "", Checks.field(x, 1, "u"));
        Checks.due("own of the named one alone", "missing", Checks.field(x, 2, "t"));
        Checks.due("the named one's", "2", Checks.field(x, 2, "v"));
        Checks.due("crossref is one's own, as it was written", "P1", Checks.field(x, 0, "crossref"));
        Checks.due("crossref comes from nobody", "missing", Checks.field(x, 4, "crossref"));
        Checks.due("nobody is named", "missing", Checks.field(x, 3, "t"));
        Checks.due("a key of eight characters", "1",
            Checks.field(Checks.listed("@a{k,crossref=\"Abcdefg:\"}@a{aBCDEFG:,t=1}", 1, "k"), 0, "t"));
        Checks.due("a ninth character names nobody", "missing",
            Checks.field(Checks.listed("@a{k,crossref=\"abcdefghi\"}@a{abcdefgh,t=1}", 1, "k"), 0, "t"));
        Checks.due("one that names itself", "missing",
            Checks.field(Checks.listed("@a{k,crossref=\"k\"}", 1, "k"), 0, "t"));
        Checks.due("named before it is there", "1",
            Checks.field(Checks.listed("@a{k,crossref=\"j\"}@a{j,t=1}", 1, "k"), 0, "t"));
        Checks.due("a text of nothing is not inherited over", "",
            Checks.field(Checks.listed("@a{k,t={},crossref=\"j\"}@a{j,t=1}", 1, "k"), 0, "t"));
        Checks.due("a seventh field names nobody", "missing",
            Checks.field(Checks.listed("@a{k,a=1,b=1,c=1,d=1,e=1,f=1,crossref={j}}@a{j,t=1}", 1, "k"), 0, "t"));
    }
}
