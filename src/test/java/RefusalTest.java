import java.util.NoSuchElementException;
import java.util.function.Consumer;
import java.util.function.Supplier;

/**
 * Every call that is refused: the exception that the document names, and that nothing has changed by it. Of two objects
 * with the same calls one gets the refused call, and then all that can be seen of both must be the same.
 */
public final class RefusalTest {
    private static final int[] FAR = {Integer.MIN_VALUE, Integer.MIN_VALUE + 1, Integer.MAX_VALUE - 1, Integer.MAX_VALUE};

    public static void main(String[] args) {
        twinsAreTold();
        write();
        cite();
        list();
        key();
        field();
        define();
        clear();
        run();
        runIsCutOff();
        looks();
        line();
        count();
        onNewObjects();
        Checks.end();
    }

    private static void refused(String what, Class<? extends RuntimeException> want, Supplier<CiteForge> maker, Consumer<CiteForge> call) {
        CiteForge x = maker.get();
        Checks.dueThrow(what, want, () -> {
            call.accept(x);
            return "something";
        });
        Checks.due(what + " changed nothing", Twins.told(maker.get()), Twins.told(x));
    }

    private static void refused(String what, Class<? extends RuntimeException> want, Consumer<CiteForge> call) {
        refused(what, want, Twins::busy, call);
    }

    private static void outside(String what, Consumer<CiteForge> call) {
        refused(what, IndexOutOfBoundsException.class, call);
    }

    private static void illegal(String what, Consumer<CiteForge> call) {
        refused(what, IllegalArgumentException.class, call);
    }

    /** That what is compared has something in it, so that a change of it would be seen. */
    private static void twinsAreTold() {
        Checks.due("the busy object", "counts 3 3 1 4 3 warnings 1 1 0 1 0 1 0 0 0 stack 9 \"text\" missing keys k j p fields"
            + " 5 7 missing  5 missing line line one", Twins.seen(Twins.busy()));
        CiteForge x = Twins.busy();
        x.sort();
        Checks.due("the busy object, sorted", "j k p", Checks.keys(x));
    }

    private static void write() {
        long eight = Checks.bytes("aaaaaaaa");
        for (int n : new int[] {-8, -1, 0, 9, 10, 16, 64}) {
            illegal("write: n " + n, x -> x.write(eight, n));
        }
        for (int n : FAR) {
            illegal("write: n " + n, x -> x.write(eight, n));
        }
        for (long c : new long[] {0, 9, 11, 31, 127, 128, 255}) {
            for (int place = 0; place < 8; place++) {
                long bad = eight & ~(255L << 8 * place) | c << 8 * place;
                illegal("write: byte " + c + " at " + place, x -> x.write(bad, 8));
            }
        }
        Supplier<CiteForge> full = () -> filled(320);
        Supplier<CiteForge> nearly = () -> filled(316);
        refused("write: 321", IllegalStateException.class, full, x -> x.write('a', 1));
        refused("write: 328", IllegalStateException.class, full, x -> x.write(eight, 8));
        for (int n = 5; n <= 8; n++) {
            int many = n;
            refused("write: 316 and " + n, IllegalStateException.class, nearly, x -> x.write(eight, many));
        }
        refused("write: n of a full one", IllegalArgumentException.class, full, x -> x.write(eight, 0));
        refused("write: n 9 of a full one", IllegalArgumentException.class, full, x -> x.write(eight, 9));
        refused("write: no character for a full one", IllegalArgumentException.class, full, x -> x.write(0, 1));
    }

    private static CiteForge filled(int many) {
        CiteForge x = Twins.busy();
        int has = x.erase();
        Checks.due("the busy object's database is there", true, has > 0);
        Checks.write(x, "@a{k}" + Checks.of(' ', many - 5));
        return x;
    }

    private static void cite() {
        long[] none = {0, ' ', '@', '_', '.', '~', -1, Long.MIN_VALUE, Checks.bytes(" a"), Checks.bytes("a "), Checks.bytes("a b"),
            Checks.bytes("abcdefg."), Checks.bytes("\0abc"), Checks.bytes("\nabc"), Checks.bytes("a,b"), Checks.bytes("{a}")};
        for (long word : none) {
            illegal("cite: " + word, x -> x.cite(word));
            refused("cite: the 11th, " + word, IllegalArgumentException.class, RefusalTest::tenCited, x -> x.cite(word));
        }
        refused("cite: the 11th", IllegalStateException.class, RefusalTest::tenCited, x -> x.cite('z'));
        refused("cite: the 11th, a key", IllegalStateException.class, RefusalTest::tenCited, x -> x.cite('p'));
        CiteForge x = tenCited();
        Checks.due("cite: one of the ten", false, x.cite('K'));
    }

    private static CiteForge tenCited() {
        CiteForge x = Twins.busy();
        for (char c = '0'; c < '7'; c++) {
            x.cite(c);
        }
        Checks.due("ten are cited", 10, x.count(4));
        return x;
    }

    private static void list() {
        for (int min : new int[] {Integer.MIN_VALUE, -2, -1, 0}) {
            illegal("list: min " + min, x -> x.list(min));
        }
        CiteForge x = Twins.busy();
        Checks.due("list: min 1", 3, x.list(1));
        Checks.due("list: the highest min", 2, x.list(Integer.MAX_VALUE));
    }

    private static void key() {
        for (int i : new int[] {-2, -1, 3, 4, 8}) {
            outside("key " + i, x -> x.key(i));
        }
        for (int i : FAR) {
            outside("key " + i, x -> x.key(i));
        }
    }

    private static void field() {
        for (int i : new int[] {Integer.MIN_VALUE, -1, 3, 4, 8, Integer.MAX_VALUE}) {
            outside("field of entry " + i, x -> x.field(i, 't', 0));
            outside("field of entry " + i + " that is missing", x -> x.field(i, 'v', 0));
            outside("field of entry " + i + " without a word", x -> x.field(i, 0, 0));
        }
        for (int k : new int[] {Integer.MIN_VALUE, -1, 0, 1, Integer.MAX_VALUE}) {
            refused("field: missing, character " + k, NoSuchElementException.class, x -> x.field(0, 'v', k));
            refused("field: missing, of the second, character " + k, NoSuchElementException.class, x -> x.field(1, 't', k));
            refused("field: no word, character " + k, NoSuchElementException.class, x -> x.field(0, ' ', k));
            refused("field: a word of none, character " + k, NoSuchElementException.class, x -> x.field(0, 0, k));
            outside("field: a text of nothing, character " + k, x -> x.field(1, 'u', k));
            if (k != 0) {
                outside("field: its own, character " + k, x -> x.field(0, 'u', k));
                outside("field: inherited, character " + k, x -> x.field(0, 't', k));
            }
        }
        refused("field: crossref is not inherited", NoSuchElementException.class, x -> x.field(2, Checks.bytes("crossref"), 0));
    }

    private static void define() {
        for (int bad : new int[] {Integer.MIN_VALUE, -1, 6, 7, Integer.MAX_VALUE}) {
            illegal("define: function " + bad, x -> x.define(bad, 0, 0));
        }
        for (int bad : new int[] {Integer.MIN_VALUE, -1, 30, 31, Integer.MAX_VALUE}) {
            illegal("define: operation " + bad, x -> x.define(0, bad, 0));
            refused("define: operation " + bad + " as the 25th", IllegalArgumentException.class, RefusalTest::fullFunction,
                x -> x.define(3, bad, 0));
        }
        for (int operation = 0; operation < 30; operation++) {
            int each = operation;
            refused("define: the 25th, " + operation, IllegalStateException.class, RefusalTest::fullFunction, x -> x.define(3, each, 1));
        }
        refused("define: function 6 while one is full", IllegalArgumentException.class, RefusalTest::fullFunction, x -> x.define(6, 0, 0));
    }

    private static CiteForge fullFunction() {
        CiteForge x = Twins.busy();
        for (int i = 0; i < 24; i++) {
            x.define(3, i < 3 ? 0 : 22, i);
        }
        return x;
    }

    private static void clear() {
        for (int bad : new int[] {Integer.MIN_VALUE, -1, 6, 7, Integer.MAX_VALUE}) {
            illegal("clear: function " + bad, x -> x.clear(bad));
        }
    }

    private static void run() {
        for (int bad : new int[] {Integer.MIN_VALUE, -1, 6, 7, Integer.MAX_VALUE}) {
            for (int how = 0; how < 3; how++) {
                int each = how;
                illegal("run: function " + bad + ", how " + how, x -> x.run(bad, each));
            }
        }
        for (int bad : new int[] {Integer.MIN_VALUE, -1, 3, 4, Integer.MAX_VALUE}) {
            for (int function = 0; function < 4; function++) {
                int each = function;
                illegal("run: how " + bad + ", function " + function, x -> x.run(each, bad));
            }
        }
        illegal("run: neither", x -> x.run(6, 3));
    }

    /** What was done before a run is cut off stays, and nothing else has changed. */
    private static void runIsCutOff() {
        for (int how = 0; how < 3; how++) {
            int each = how;
            CiteForge x = Twins.busy();
            x.define(4, 1, Checks.bytes("more"));
            x.define(4, 21, 0);
            x.define(4, 15, 5);
            x.define(5, 15, 5);
            CiteForge twin = Twins.busy();
            twin.define(4, 1, Checks.bytes("more"));
            twin.define(4, 21, 0);
            twin.run(4, 0);
            twin.define(4, 15, 5);
            twin.define(5, 15, 5);
            Checks.dueThrow("nine deep, how " + how, UnsupportedOperationException.class, () -> x.run(4, each));
            Checks.due("nine deep, how " + how + ": what was done stays", Twins.seen(twin), Twins.seen(x));
            Checks.due("nine deep, how " + how + ": functions stay", 3, x.clear(4));
            endless(each);
        }
    }

    private static void endless(int how) {
        CiteForge x = Twins.busy();
        x.define(3, 0, 1);
        x.define(4, 14, 3 * 6 + 5);
        x.define(5, 0, 1);
        x.define(5, 16, 2);
        String before = Twins.seen(x);
        Checks.dueThrow("a 401st, how " + how, UnsupportedOperationException.class, () -> x.run(4, how));
        // 1 + 133 * 3 = 400: the 134th test is the 401st operation.
        Checks.due("a 401st, how " + how + ": what can be seen stays", before, Twins.seen(x));
        x.clear(5);
        x.define(5, 17, 2);
        Checks.due("a 401st, how " + how + ": the next run", 1, x.run(5, 0));
        Checks.due("a 401st, how " + how + ": what was done stays", "1", Checks.top(x, 0));
    }

    private static void looks() {
        for (int k : new int[] {Integer.MIN_VALUE, -1, 3, 4, 11, 12, Integer.MAX_VALUE}) {
            outside("kind " + k, x -> x.kind(k));
            outside("value " + k, x -> x.value(k));
            for (int i : new int[] {-1, 0, 1}) {
                outside("letter " + i + " of " + k, x -> x.letter(k, i));
            }
        }
        for (int i : new int[] {Integer.MIN_VALUE, -1, 4, 5, 60, Integer.MAX_VALUE}) {
            outside("letter " + i + " of a text", x -> x.letter(1, i));
        }
        for (int i : new int[] {-1, 0, 1}) {
            outside("letter " + i + " of missing", x -> x.letter(0, i));
            outside("letter " + i + " of a number", x -> x.letter(2, i));
        }
    }

    private static void line() {
        for (int k : new int[] {Integer.MIN_VALUE, -1, 1, 2, 23, 24, Integer.MAX_VALUE}) {
            for (int i : new int[] {-1, 0, 1, Integer.MAX_VALUE}) {
                refused("line " + k + ", character " + i, NoSuchElementException.class, x -> x.line(k, i));
            }
        }
        for (int i : new int[] {Integer.MIN_VALUE, -1, 8, 9, 30, 180, Integer.MAX_VALUE}) {
            outside("line 0, character " + i, x -> x.line(0, i));
        }
    }

    private static void count() {
        for (int what : new int[] {Integer.MIN_VALUE, -2, -1, 5, 6, Integer.MAX_VALUE}) {
            outside("count " + what, x -> x.count(what));
        }
        for (int kind : new int[] {Integer.MIN_VALUE, -1, 0, 10, 11, Integer.MAX_VALUE}) {
            outside("warnings " + kind, x -> x.warnings(kind));
        }
    }

    private static void onNewObjects() {
        Supplier<CiteForge> fresh = CiteForge::new;
        Class<IndexOutOfBoundsException> outside = IndexOutOfBoundsException.class;
        refused("new: key", outside, fresh, x -> x.key(0));
        refused("new: field", outside, fresh, x -> x.field(0, 't', 0));
        refused("new: kind", outside, fresh, x -> x.kind(0));
        refused("new: value", outside, fresh, x -> x.value(0));
        refused("new: letter", outside, fresh, x -> x.letter(0, 0));
        refused("new: line", NoSuchElementException.class, fresh, x -> x.line(0, 0));
        refused("new: list", IllegalArgumentException.class, fresh, x -> x.list(0));
        refused("new: cite", IllegalArgumentException.class, fresh, x -> x.cite(0));
        refused("new: write", IllegalArgumentException.class, fresh, x -> x.write(0, 1));
        refused("new: define", IllegalArgumentException.class, fresh, x -> x.define(6, 0, 0));
        refused("new: clear", IllegalArgumentException.class, fresh, x -> x.clear(-1));
        refused("new: run", IllegalArgumentException.class, fresh, x -> x.run(0, 3));
        refused("new: count", outside, fresh, x -> x.count(5));
        refused("new: warnings", outside, fresh, x -> x.warnings(0));
    }
}
