import java.util.ArrayList;
import java.util.List;

/** The bounds of the machine: the stack, functions, runs, kinds that are taken, and the operations 0 to 20. */
public final class MachineBoundsTest {
    /** What the operations take, the first taken first: n a number, t a text, v any value. */
    private static final String[] TAKEN = {
        "", "", "", "nn", "nn", "nn", "nn", "vv", "tt", "v", "v", "vv", "v", "n", "n", "", "n", "", "", "", "t", "t", "",
        "t", "nt", "t", "t", "t", "nt", "nnt",
    };
    private static final int GLOBAL = 17;

    public static void main(String[] args) {
        twelveValues();
        givingToAFullStack();
        sixtyCharacters();
        sixFunctions();
        thirtyOperations();
        twentyFourOperations();
        eightDeep();
        eightDeepForEntries();
        fourHundred();
        fourHundredForEntries();
        endlessRuns();
        anotherKind();
        nothingIsThere();
        nothingIsThereAnyMore();
        missingAsText();
        lowest32Bits();
        bytesOfAText();
        wordsOfOperation2();
        wrappingNumbers();
        comparedNumbers();
        equalValues();
        movedValues();
        blanksAlone();
        above0();
        whileAbove0();
        negativeN();
        sixtyFourBits();
        fourGlobals();
        keyAndType();
        looks();
        Checks.end();
    }

    /** Values on the stack, told as numbers and "texts" and null for missing, the lowest first. */
    private static CiteForge with(Object... values) {
        CiteForge x = new CiteForge();
        for (Object each : values) {
            give(x, each);
        }
        return x;
    }

    private static void give(CiteForge x, Object value) {
        x.clear(5);
        if (value == null) {
            x.define(5, 18, 0);
        } else if (value instanceof Integer) {
            x.define(5, 0, (Integer) value);
        } else {
            Checks.text(x, 5, (String) value);
        }
        x.run(5, 0);
    }

    private static CiteForge perform(CiteForge x, int operation, long n) {
        x.clear(0);
        x.define(0, operation, n);
        x.run(0, 0);
        return x;
    }

    private static CiteForge stackOf(int many) {
        CiteForge x = new CiteForge();
        for (int i = 0; i < many; i++) {
            give(x, i);
        }
        return x;
    }

    private static void twelveValues() {
        for (int many = 0; many <= 14; many++) {
            CiteForge x = stackOf(many);
            Checks.due(many + " values: depth", Math.min(many, 12), x.depth());
            Checks.due(many + " values: warnings 8", Math.max(many - 12, 0), x.warnings(8));
            if (many > 0) {
                Checks.due(many + " values: the top", Math.min(many, 12) - 1, x.value(0));
                Checks.due(many + " values: the lowest", 0, x.value(Math.min(many, 12) - 1));
            }
            Checks.due(many + " values: all are gone", Math.min(many, 12), x.empty());
        }
    }

    private static void givingToAFullStack() {
        String full = "0 1 2 3 4 5 6 7 8 9 10 11";
        for (int operation : new int[] {0, 1, 2, GLOBAL, 18, 19}) {
            CiteForge x = perform(stackOf(12), operation, 'a');
            Checks.due("full: " + operation + " is lost", full, Checks.stack(x));
            Checks.due("full: " + operation + " is warned of", 1, x.warnings(8));
            x = perform(stackOf(11), operation, 'a');
            Checks.due("room for one: " + operation, 12, x.depth());
            Checks.due("room for one: " + operation + " is not warned of", 0, x.warnings(8));
        }
        CiteForge x = perform(stackOf(12), 10, 0);
        Checks.due("full: 10 gives one", full, Checks.stack(x));
        Checks.due("full: 10 is warned of", 1, x.warnings(8));
        x = perform(stackOf(11), 10, 0);
        Checks.due("room for one: 10", "0 1 2 3 4 5 6 7 8 9 10 10", Checks.stack(x));
        Checks.due("room for one: 10 is not warned of", 0, x.warnings(8));
        x = perform(stackOf(12), 11, 0);
        Checks.due("full: 11", "0 1 2 3 4 5 6 7 8 9 11 10", Checks.stack(x));
        Checks.due("full: 11 is not warned of", 0, x.warnings(8));
        x = perform(stackOf(12), 3, 0);
        Checks.due("full: 3", "0 1 2 3 4 5 6 7 8 9 21", Checks.stack(x));
        x = perform(stackOf(12), 12, 0);
        Checks.due("full: 12 takes before it gives", "0 1 2 3 4 5 6 7 8 9 10 0", Checks.stack(x));
        Checks.due("full: 12 is not warned of", 0, x.warnings(8));
    }

    private static void joined(int first, int second) {
        CiteForge x = perform(with(Checks.of('x', first), Checks.of('y', second)), 8, 0);
        String both = Checks.of('x', first) + Checks.of('y', second);
        Checks.due(first + " and " + second, "\"" + both.substring(0, Math.min(both.length(), 60)) + "\"", Checks.stack(x));
        Checks.due(first + " and " + second + ": no warnings", 0, x.warnings(3) + x.warnings(7) + x.warnings(8));
    }

    private static void sixtyCharacters() {
        joined(0, 0);
        joined(58, 1);
        joined(59, 1);
        joined(60, 0);
        joined(0, 60);
        joined(60, 1);
        joined(59, 2);
        joined(1, 60);
        joined(60, 60);
        CiteForge x = Checks.listed("@a{k,t={" + Checks.of('x', 61) + "}}", 1, "k");
        x.define(0, 2, 't');
        x.run(0, 1);
        Checks.due("a field of 60", 60, x.value(0));
        Checks.due("its 60th character", (int) 'x', x.letter(0, 59));
        Checks.dueThrow("its 61st character", IndexOutOfBoundsException.class, () -> x.letter(0, 60));
    }

    private static void sixFunctions() {
        CiteForge x = new CiteForge();
        for (int f = 0; f < 6; f++) {
            Checks.due("function " + f, 1, x.define(f, 0, f));
            Checks.due("function " + f + " is run", 1, x.run(f, 0));
        }
        Checks.due("six functions", "0 1 2 3 4 5", Checks.stack(x));
        for (int f : new int[] {-1, 6, 7, Integer.MIN_VALUE, Integer.MAX_VALUE}) {
            Checks.dueThrow("define " + f, IllegalArgumentException.class, () -> x.define(f, 0, 0));
            Checks.dueThrow("clear " + f, IllegalArgumentException.class, () -> x.clear(f));
            Checks.dueThrow("run " + f, IllegalArgumentException.class, () -> x.run(f, 0));
        }
        for (int f = 0; f < 6; f++) {
            Checks.due("function " + f + " had", 1, x.clear(f));
        }
    }

    private static void thirtyOperations() {
        CiteForge x = new CiteForge();
        for (int operation = 0; operation < 24; operation++) {
            Checks.due("operation " + operation, operation + 1, x.define(0, operation, 0));
        }
        for (int operation = 24; operation < 30; operation++) {
            Checks.due("operation " + operation, operation - 23, x.define(1, operation, 0));
        }
        for (int operation : new int[] {-1, 30, 31, Integer.MIN_VALUE, Integer.MAX_VALUE}) {
            Checks.dueThrow("operation " + operation, IllegalArgumentException.class, () -> x.define(2, operation, 0));
        }
        Checks.due("none was put there", 0, x.clear(2));
    }

    private static void twentyFourOperations() {
        CiteForge x = new CiteForge();
        for (int i = 1; i <= 24; i++) {
            Checks.due("operation no. " + i, i, x.define(3, 22, 0));
        }
        Checks.dueThrow("operation no. 25", IllegalStateException.class, () -> x.define(3, 0, 0));
        Checks.dueThrow("no operation no. 25", IllegalArgumentException.class, () -> x.define(3, 30, 0));
        Checks.due("24 are done", 24, x.run(3, 0));
        Checks.due("the 25th was not put there", 0, x.depth());
        Checks.due("the next function has its own", 1, x.define(4, 0, 9));
        Checks.due("the one before has its own", 1, x.define(2, 0, 9));
        Checks.due("24 are done again", 24, x.run(3, 0));
        Checks.due("it had 24", 24, x.clear(3));
        Checks.due("room again", 1, x.define(3, 0, 0));
    }

    /** Function 0 runs itself for each 1 on the stack, and function 1 for the 0 below them. */
    private static CiteForge levels(int ones) {
        CiteForge x = new CiteForge();
        give(x, 0);
        for (int i = 0; i < ones; i++) {
            give(x, 1);
        }
        x.define(0, 13, 1);
        x.define(1, GLOBAL, 3);
        return x;
    }

    private static void eightDeep() {
        // Function 0 stands one deep for each number that it takes, and function 1 one deeper.
        for (int ones = 0; ones <= 6; ones++) {
            CiteForge x = levels(ones);
            Checks.due((ones + 2) + " deep", ones + 2, x.run(0, 0));
            Checks.due((ones + 2) + " deep: it was run", "0", Checks.stack(x));
        }
        CiteForge x = levels(7);
        Checks.dueThrow("9 deep", UnsupportedOperationException.class, () -> x.run(0, 0));
        Checks.due("9 deep: what was done stays", 0, x.depth());
        Checks.due("9 deep: it was not run, no warnings", 0, x.warnings(7));
        CiteForge y = levels(8);
        Checks.dueThrow("10 would be deep", UnsupportedOperationException.class, () -> y.run(0, 0));
        Checks.due("10 would be deep: the ninth function takes nothing", "0", Checks.stack(y));
        CiteForge z = levels(7);
        z.clear(1);
        Checks.dueThrow("9 deep without operations", UnsupportedOperationException.class, () -> z.run(0, 0));
        give(z, 0);
        Checks.due("the next run begins at the first level", 1, z.run(0, 0));
    }

    private static void eightDeepForEntries() {
        CiteForge x = Checks.listed("@a{1}@a{2}@a{3}", 1, "1", "2", "3");
        // Function 1 stands two to seven deep and function 2 eight deep, if each entry begins at the first level.
        x.define(0, 0, 0);
        for (int i = 0; i < 5; i++) {
            x.define(0, 0, 1);
        }
        x.define(0, 15, 1);
        x.define(1, 13, 6 + 2);
        Checks.due("eight deep for each entry", 3 * 13, x.run(0, 1));
        x.clear(0);
        x.define(0, 18, 0);
        x.define(0, 15, 0);
        Checks.dueThrow("nine deep for the first entry", UnsupportedOperationException.class, () -> x.run(0, 2));
        Checks.due("the first from the end alone", "\"3\" \"3\" \"3\" \"3\" \"3\" \"3\" \"3\" \"3\"", Checks.stack(x));
    }

    /** A function 0 that does as many operations as told, up to 24 * 25, and gives a number with the last one. */
    private static CiteForge doing(int many) {
        CiteForge x = new CiteForge();
        for (int i = 0; i < 24; i++) {
            x.define(1, 22, 0);
        }
        int calls = (many - 1) / 25;
        for (int i = 0; i < calls; i++) {
            x.define(0, 15, 1);
        }
        int rest = many - 1 - 25 * calls;
        if (rest > 0) {
            x.define(0, 15, 2);
        }
        for (int i = 1; i < rest; i++) {
            x.define(2, 22, 0);
        }
        x.define(0, 0, 7);
        return x;
    }

    private static void fourHundred() {
        for (int many : new int[] {1, 2, 25, 26, 27, 398, 399, 400}) {
            CiteForge x = doing(many);
            Checks.due(many + " operations", many, x.run(0, 0));
            Checks.due(many + " operations: the last was done", "7", Checks.stack(x));
            Checks.due(many + " operations: again", many, x.run(0, 0));
        }
        CiteForge x = doing(401);
        Checks.dueThrow("401 operations", UnsupportedOperationException.class, () -> x.run(0, 0));
        Checks.due("401 operations: the last was not done", 0, x.depth());
        CiteForge y = doing(402);
        Checks.dueThrow("402 operations", UnsupportedOperationException.class, () -> y.run(0, 0));
        Checks.due("a run behind it has its own 400", 24, y.run(1, 0));
    }

    private static void fourHundredForEntries() {
        CiteForge x = Checks.listed("@a{1}@a{2}@a{3}@a{4}@a{5}@a{6}@a{7}@a{8}", 1, "1", "2", "3", "4", "5", "6", "7", "8");
        for (int i = 0; i < 24; i++) {
            x.define(1, 22, 0);
        }
        x.define(0, 15, 1);
        x.define(0, 15, 2);
        for (int i = 0; i < 22; i++) {
            x.define(2, 22, 0);
        }
        x.define(0, 18, 0);
        Checks.due("8 times 49", 392, x.run(0, 1));
        x.empty();
        x.define(0, 22, 0);
        Checks.due("8 times 50", 400, x.run(0, 2));
        Checks.due("8 times 50: all", 8, x.empty());
        x.define(0, 22, 0);
        Checks.dueThrow("8 times 51", UnsupportedOperationException.class, () -> x.run(0, 1));
        Checks.due("8 times 51: what was done stays", "\"1\" \"2\" \"3\" \"4\" \"5\" \"6\" \"7\"", Checks.stack(x));
        Checks.due("once has no entries", 51, x.run(0, 0));
    }

    private static void endlessRuns() {
        CiteForge x = new CiteForge();
        x.define(0, 14, 6 + 2);
        x.define(1, 0, 1);
        Checks.dueThrow("14 without an end", UnsupportedOperationException.class, () -> x.run(0, 0));
        Checks.due("14 without an end: each number was taken", 0, x.depth());
        CiteForge y = new CiteForge();
        y.define(0, 0, 1);
        y.define(0, 14, 6 + 2);
        y.define(2, GLOBAL, 0);
        y.define(2, 0, 1);
        y.define(2, 3, 0);
        y.define(2, 16, 0);
        y.define(2, 0, 1);
        Checks.dueThrow("14 with its numbers from within", UnsupportedOperationException.class, () -> y.run(0, 0));
        // Two operations, then five in each turn: the 80th turn has three of its five.
        Checks.due("14 with its numbers from within: the last turn is cut", "80", Checks.stack(y));
        give(y, 0);
        Checks.due("14: the turns that were done", "79", Checks.top(perform(y, GLOBAL, 0), 0));
    }

    private static Object proper(char kind) {
        return kind == 't' ? "Ab, C and D" : (Object) 2;
    }

    private static Object instead(char kind) {
        return kind == 't' ? "" : (Object) 0;
    }

    /** What an operation leaves of values, told the lowest first: stack, lines, globals. */
    private static String left(CiteForge x, int operation) {
        // Function 1 gives nothing, so that 14 ends; function 2 gives a number, as 13 and 15 run it.
        x.define(2, 0, 22);
        x.define(3, 22, 0);
        perform(x, operation, operation == 14 ? 6 + 4 : 3 * 6 + 2);
        StringBuilder all = new StringBuilder(Checks.stack(x));
        all.append(", at hand ").append(x.count(3)).append(", warnings 9 ").append(x.warnings(9));
        x.empty();
        for (int global = 0; global < 4; global++) {
            perform(x, GLOBAL, global);
        }
        return all.append(", globals ").append(Checks.stack(x)).toString();
    }

    private static Object[] values(String taken, int place, Object other) {
        List<Object> all = new ArrayList<>();
        all.add("below");
        for (int i = taken.length() - 1; i >= 0; i--) {
            all.add(i == place ? other : proper(taken.charAt(i)));
        }
        return all.toArray();
    }

    private static void anotherKind() {
        for (int operation = 0; operation < TAKEN.length; operation++) {
            String taken = TAKEN[operation];
            for (int place = 0; place < taken.length(); place++) {
                char kind = taken.charAt(place);
                if (kind == 'n') {
                    anotherKind(operation, place, "12");
                    anotherKind(operation, place, "");
                    anotherKind(operation, place, null);
                } else if (kind == 't') {
                    anotherKind(operation, place, 0);
                    anotherKind(operation, place, 5);
                }
            }
        }
    }

    /** A value of another kind is taken as the number 0 or a text of nothing, with one warning. */
    private static void anotherKind(int operation, int place, Object other) {
        String taken = TAKEN[operation];
        CiteForge as = with(values(taken, place, instead(taken.charAt(place))));
        CiteForge x = with(values(taken, place, other));
        String what = "operation " + operation + " takes " + other + " at " + place;
        Checks.due(what, left(as, operation), left(x, operation));
        Checks.due(what + ": warnings 7", as.warnings(7) + 1, x.warnings(7));
    }

    private static void nothingIsThere() {
        for (int operation = 0; operation < TAKEN.length; operation++) {
            String taken = TAKEN[operation];
            for (int there = 0; there < taken.length(); there++) {
                List<Object> some = new ArrayList<>();
                List<Object> all = new ArrayList<>();
                for (int i = taken.length() - 1; i >= 0; i--) {
                    all.add(i < there ? proper(taken.charAt(i)) : instead(taken.charAt(i)));
                    if (i < there) {
                        some.add(proper(taken.charAt(i)));
                    }
                }
                nothingIsThere(operation, with(all.toArray()), with(some.toArray()), taken.length() - there);
            }
        }
    }

    private static void nothingIsThere(int operation, CiteForge as, CiteForge x, int missing) {
        String what = "operation " + operation + ", " + missing + " are not there";
        Checks.due(what, left(as, operation), left(x, operation));
        Checks.due(what + ": warnings 7", as.warnings(7) + missing, x.warnings(7));
    }

    /** What was taken before does not come back where nothing is there. */
    private static void nothingIsThereAnyMore() {
        String[] wants = {"1", "", "0 0", "0 0", "0"};
        int[] operations = {7, 9, 10, 11, 12};
        for (int i = 0; i < operations.length; i++) {
            for (Object value : new Object[] {"a", 5, null}) {
                CiteForge x = perform(with(value, value), 11, 0);
                x.empty();
                perform(x, operations[i], 0);
                Checks.due("nothing is there any more for " + operations[i], wants[i], Checks.stack(x));
            }
        }
        for (int operation : new int[] {8, 24, 25, 26, 28, 29}) {
            CiteForge x = perform(with("a", "b"), 8, 0);
            x.empty();
            Checks.due("no text is there any more for " + operation, "\"\"", Checks.stack(perform(x, operation, 0)));
        }
    }

    private static void missingAsText() {
        for (int operation = 0; operation < TAKEN.length; operation++) {
            String taken = TAKEN[operation];
            for (int place = 0; place < taken.length(); place++) {
                if (taken.charAt(place) == 't') {
                    CiteForge as = with(values(taken, place, ""));
                    CiteForge x = with(values(taken, place, null));
                    String what = "operation " + operation + " takes missing at " + place;
                    Checks.due(what, left(as, operation), left(x, operation));
                    Checks.due(what + ": no warnings 7", as.warnings(7), x.warnings(7));
                }
            }
        }
        Checks.due("missing as a text has no warning of 8", 0, perform(with(null, null), 8, 0).warnings(7));
    }

    private static void number(long n, int want) {
        Checks.due("0: " + n, Integer.toString(want), Checks.stack(Checks.ran(0, n)));
    }

    private static void lowest32Bits() {
        number(0, 0);
        number(-1, -1);
        number(0x7fffffffL, Integer.MAX_VALUE);
        number(0x80000000L, Integer.MIN_VALUE);
        number(0xffffffffL, -1);
        number(0x100000000L, 0);
        number(0x100000001L, 1);
        number(Long.MAX_VALUE, -1);
        number(Long.MIN_VALUE, 0);
        number(Integer.MIN_VALUE - 1L, Integer.MAX_VALUE);
    }

    private static void bytesOfAText() {
        for (int c = 0; c < 256; c++) {
            boolean character = c >= 32 && c <= 126;
            CiteForge x = Checks.ran(1, c, 1, 'a' | (long) c << 8 | 'b' << 16, 1, Checks.bytes("abcdefg") | (long) c << 56);
            Checks.due("1: byte " + c + ": kind", CiteForge.TEXT, x.kind(2));
            Checks.due("1: byte " + c + " alone", character ? 1 : 0, x.value(2));
            Checks.due("1: byte " + c + " second", character ? 3 : 1, x.value(1));
            Checks.due("1: byte " + c + " eighth", character ? 8 : 7, x.value(0));
            if (character) {
                Checks.due("1: byte " + c, c, x.letter(2, 0));
                Checks.due("1: byte " + c + " as the second", c, x.letter(1, 1));
                Checks.due("1: byte " + c + " as the eighth", c, x.letter(0, 7));
            }
        }
    }

    private static void wordsOfOperation2() {
        CiteForge x = Checks.listed("@a{k,t=1,abcdefgh=2,e={}}", 1, "k");
        String[] words = {"T", "ABCDEFGH", "abcdefg", "e", "", "t ", "{t}", "t\nu", "u"};
        for (String word : words) {
            x.define(0, 2, Checks.bytes(word));
        }
        x.run(0, 1);
        Checks.due("2: words", "\"1\" \"2\" missing \"\" missing missing missing \"1\" missing", Checks.stack(x));
        Checks.due("2: no warnings", 0, x.warnings(7) + x.warnings(2));
    }

    private static void reckoned(int operation, int a, int b, int want) {
        CiteForge x = Checks.ran(0, a, 0, b, operation, 0);
        Checks.due(operation + ": " + a + ", " + b, Integer.toString(want), Checks.stack(x));
    }

    private static void wrappingNumbers() {
        reckoned(3, Integer.MAX_VALUE, 0, Integer.MAX_VALUE);
        reckoned(3, Integer.MAX_VALUE, 1, Integer.MIN_VALUE);
        reckoned(3, Integer.MAX_VALUE - 1, 1, Integer.MAX_VALUE);
        reckoned(3, Integer.MIN_VALUE, -1, Integer.MAX_VALUE);
        reckoned(3, Integer.MIN_VALUE, Integer.MIN_VALUE, 0);
        reckoned(3, Integer.MAX_VALUE, Integer.MAX_VALUE, -2);
        reckoned(4, Integer.MIN_VALUE, 0, Integer.MIN_VALUE);
        reckoned(4, Integer.MIN_VALUE, 1, Integer.MAX_VALUE);
        reckoned(4, Integer.MIN_VALUE + 1, 1, Integer.MIN_VALUE);
        reckoned(4, 0, Integer.MIN_VALUE, Integer.MIN_VALUE);
        reckoned(4, Integer.MAX_VALUE, -1, Integer.MIN_VALUE);
    }

    private static void comparedNumbers() {
        int[] numbers = {Integer.MIN_VALUE, -1, 0, 1, Integer.MAX_VALUE};
        for (int i = 0; i < numbers.length; i++) {
            for (int j = 0; j < numbers.length; j++) {
                reckoned(5, numbers[i], numbers[j], i < j ? 1 : 0);
                reckoned(6, numbers[i], numbers[j], i > j ? 1 : 0);
                reckoned(7, numbers[i], numbers[j], i == j ? 1 : 0);
            }
        }
    }

    private static void equal(int want, Object a, Object b) {
        for (CiteForge x : new CiteForge[] {with(a, b), with(b, a)}) {
            perform(x, 7, 0);
            Checks.due("7: " + a + " and " + b, Integer.toString(want), Checks.stack(x));
            Checks.due("7: " + a + " and " + b + ": no warnings", 0, x.warnings(7));
        }
    }

    private static void equalValues() {
        equal(1, "", "");
        equal(1, "", null);
        equal(1, null, null);
        equal(0, " ", null);
        equal(0, " ", "");
        equal(0, 0, "");
        equal(0, 0, null);
        equal(0, 0, "0");
        equal(0, "a", "A");
        equal(0, "a", "ab");
        equal(1, Checks.of('x', 60), Checks.of('x', 60));
        equal(0, Checks.of('x', 60), Checks.of('x', 59) + "y");
        equal(0, Checks.of('x', 60), Checks.of('x', 59));
        Checks.due("7: nothing there is 0", "1", Checks.stack(perform(with(0), 7, 0)));
        Checks.due("7: nothing there is no text", "0", Checks.stack(perform(with(""), 7, 0)));
        Checks.due("7: nothing there is not missing", "0", Checks.stack(perform(with((Object) null), 7, 0)));
    }

    private static void movedValues() {
        Checks.due("9: the last one", "", Checks.stack(perform(with("a"), 9, 0)));
        Checks.due("9: the top", "1", Checks.stack(perform(with(1, "a"), 9, 0)));
        Checks.due("10: a number", "3 3", Checks.stack(perform(with(3), 10, 0)));
        Checks.due("10: nothing there", "0 0", Checks.stack(perform(with(), 10, 0)));
        Checks.due("11: the one taken first is below", "1 \"c\" \"b\"", Checks.stack(perform(with(1, "b", "c"), 11, 0)));
        Checks.due("11: one there", "\"c\" 0", Checks.stack(perform(with("c"), 11, 0)));
        Checks.due("11: none there", "0 0", Checks.stack(perform(with(), 11, 0)));
        Checks.due("11: again", "\"b\" \"c\"", Checks.stack(perform(perform(with("b", "c"), 11, 0), 11, 0)));
    }

    private static void blank(int want, Object value) {
        CiteForge x = perform(with(value), 12, 0);
        Checks.due("12: " + value, Integer.toString(want), Checks.stack(x));
        Checks.due("12: " + value + ": no warnings", 0, x.warnings(7));
    }

    private static void blanksAlone() {
        blank(1, null);
        blank(1, "");
        blank(1, " ");
        blank(1, Checks.of(' ', 60));
        blank(0, Checks.of(' ', 59) + "x");
        blank(0, "x" + Checks.of(' ', 59));
        blank(0, "~");
        blank(0, "{}");
        blank(0, 0);
        blank(0, 1);
        Checks.due("12: nothing there is the number 0", "0", Checks.stack(perform(with(), 12, 0)));
    }

    /** Functions 1 to 4 give their own number. */
    private static CiteForge numbered(Object... values) {
        CiteForge x = with(values);
        for (int f = 1; f <= 4; f++) {
            x.define(f, 0, f);
        }
        return x;
    }

    private static void above0() {
        int n = 3 * 6 + 4;
        Checks.due("13: 1", "3", Checks.stack(perform(numbered(1), 13, n)));
        Checks.due("13: 0", "4", Checks.stack(perform(numbered(0), 13, n)));
        Checks.due("13: -1", "4", Checks.stack(perform(numbered(-1), 13, n)));
        Checks.due("13: the highest", "3", Checks.stack(perform(numbered(Integer.MAX_VALUE), 13, n)));
        Checks.due("13: the lowest", "4", Checks.stack(perform(numbered(Integer.MIN_VALUE), 13, n)));
        Checks.due("13: a text", "4", Checks.stack(perform(numbered("1"), 13, n)));
        Checks.due("13: missing", "4", Checks.stack(perform(numbered((Object) null), 13, n)));
        Checks.due("13: nothing there", "4", Checks.stack(perform(numbered(), 13, n)));
        for (int f = 1; f <= 4; f++) {
            Checks.due("13: n / 6 % 6", Integer.toString(f), Checks.stack(perform(numbered(1), 13, 36 * 5 + 6 * f)));
            Checks.due("13: n % 6", Integer.toString(f), Checks.stack(perform(numbered(0), 13, 36 * 5 + 30 + f)));
            Checks.due("15: n % 6", Integer.toString(f), Checks.stack(perform(numbered(), 15, 36 * 5 + 30 + f)));
        }
    }

    private static void whileAbove0() {
        // Function 5 is empty by then, so the numbers are those that are there.
        int n = 5 * 6 + 4;
        Checks.due("14: 0", "9", Checks.stack(loop(n, 9, 0)));
        Checks.due("14: -1", "9", Checks.stack(loop(n, 9, -1)));
        Checks.due("14: the lowest", "9", Checks.stack(loop(n, 9, Integer.MIN_VALUE)));
        Checks.due("14: 1, then 0", "", Checks.stack(loop(n, 0, 1)));
        Checks.due("14: the highest, then 0", "8", Checks.stack(loop(n, 8, 0, Integer.MAX_VALUE)));
        Checks.due("14: a text", "9", Checks.stack(loop(n, 9, "1")));
        Checks.due("14: missing", "9", Checks.stack(loop(n, 9, null)));
        CiteForge x = loop(n, 2, 1);
        Checks.due("14: up to where nothing is there", "", Checks.stack(x));
        Checks.due("14: up to where nothing is there: warnings", 1, x.warnings(7));
        Checks.due("14: function n / 6 % 6 once more than n % 6", 1 + 4 * 3 + 3 * 4, counted());
    }

    private static CiteForge loop(int n, Object... values) {
        CiteForge x = with(values);
        x.clear(5);
        return perform(x, 14, n);
    }

    private static int counted() {
        CiteForge x = new CiteForge();
        x.define(0, 14, 36 + 6 + 2);
        x.define(1, 0, 3);
        x.define(1, GLOBAL, 0);
        x.define(1, 4, 0);
        x.define(2, GLOBAL, 0);
        x.define(2, 0, 1);
        x.define(2, 3, 0);
        x.define(2, 16, 0);
        return x.run(0, 0);
    }

    private static void negativeN() {
        for (long n : new long[] {-1, -2, -7, -36, Integer.MIN_VALUE, Long.MIN_VALUE, Long.MIN_VALUE + 1}) {
            Checks.due("13: " + n, "0", Checks.stack(zeroRuns(13, n)));
            Checks.due("15: " + n, "0", Checks.stack(zeroRuns(15, n)));
            CiteForge x = zeroRuns(14, n);
            Checks.due("14: " + n, "", Checks.stack(x));
            CiteForge y = with(5);
            perform(y, 16, n);
            Checks.due("16: " + n, "5", Checks.stack(perform(y, GLOBAL, 0)));
            Checks.due("17: " + n, "5 5", Checks.stack(perform(y, GLOBAL, n)));
            Checks.due("24: " + n, "\"B A\"", Checks.stack(perform(with("A, B", 1), 24, n)));
            Checks.due("25: " + n, "\"Aa\"", Checks.stack(perform(with("AA"), 25, n)));
        }
        Checks.due("0 is below 13", "-1", Checks.stack(Checks.ran(0, -1)));
        Checks.due("1 is below 13", "\"a\"", Checks.stack(Checks.ran(1, 0x8000000000000061L)));
    }

    /** Runs an operation in function 1 that is to run function 0, which gives the number 0, alone. */
    private static CiteForge zeroRuns(int operation, long n) {
        CiteForge x = operation == 13 ? with(1) : with();
        for (int f = 1; f < 6; f++) {
            x.clear(f);
            x.define(f, 0, f);
        }
        x.clear(1);
        x.define(0, 0, 0);
        x.define(1, operation, n);
        Checks.due(operation + ": " + n + ": operations", 2, x.run(1, 0));
        return x;
    }

    private static void sixtyFourBits() {
        long far = 36L * 1000000000000L;
        for (int f = 1; f <= 4; f++) {
            String want = Integer.toString(f);
            Checks.due("13: n / 6 % 6 of 64 bits", want, Checks.stack(perform(numbered(1), 13, far + 6 * f)));
            Checks.due("13: n % 6 of 64 bits", want, Checks.stack(perform(numbered(0), 13, far + f)));
            Checks.due("15: n % 6 of 64 bits", want, Checks.stack(perform(numbered(), 15, far + f)));
        }
        // 2^63 - 1 is 7 more than a multiple of 36, 2^32 is 4 more, 2^31 is 20 more.
        Checks.due("13: 2^63 - 1, upper", "1", Checks.stack(perform(numbered(1), 13, Long.MAX_VALUE)));
        Checks.due("13: 2^63 - 1, lower", "1", Checks.stack(perform(numbered(0), 13, Long.MAX_VALUE)));
        Checks.due("15: 2^63 - 1", "1", Checks.stack(perform(numbered(), 15, Long.MAX_VALUE)));
        Checks.due("15: 2^32", "4", Checks.stack(perform(numbered(), 15, 1L << 32)));
        Checks.due("15: 2^31", "2", Checks.stack(perform(numbered(), 15, 1L << 31)));
        Checks.due("16, 17: 2^63 - 1", "5", Checks.stack(perform(perform(with(5), 16, 3), GLOBAL, Long.MAX_VALUE)));
        Checks.due("24: 2^63 - 1", "\"B. A\"", Checks.stack(perform(with("A, B", 1), 24, Long.MAX_VALUE)));
        Checks.due("25: 2^63 - 1", "\"aa\"", Checks.stack(perform(with("AA"), 25, Long.MAX_VALUE)));
        Checks.due("25: 2^32 + 1", "\"AA\"", Checks.stack(perform(with("aa"), 25, (1L << 32) + 1)));
    }

    private static void fourGlobals() {
        CiteForge x = new CiteForge();
        for (int global = 0; global < 4; global++) {
            Checks.due("global " + global + " at first", "0", Checks.stack(perform(x, GLOBAL, global)));
            x.empty();
        }
        for (int n = 0; n < 9; n++) {
            give(x, 10 + n);
            perform(x, 16, n);
        }
        for (int n = 0; n < 9; n++) {
            perform(x, GLOBAL, n);
        }
        Checks.due("n % 4", "18 15 16 17 18 15 16 17 18", Checks.stack(x));
        x.empty();
        give(x, Integer.MIN_VALUE);
        perform(x, 16, 2);
        Checks.due("the lowest number", "-2147483648", Checks.stack(perform(x, GLOBAL, 2)));
        x.empty();
        give(x, null);
        perform(x, 16, 2);
        Checks.due("missing is 0", "0", Checks.stack(perform(x, GLOBAL, 2)));
        Checks.due("missing is warned of", 1, x.warnings(7));
    }

    private static void keyAndType() {
        CiteForge x = Checks.listed("@ABCDEFGH{IJKLMNOP}@a{b}", 1, "ijklmnop", "b");
        x.define(0, 18, 0);
        x.define(0, 19, 0);
        x.run(0, 1);
        Checks.due("18, 19: of eight and of one", "\"ijklmnop\" \"abcdefgh\" \"b\" \"a\"", Checks.stack(x));
        x.empty();
        x.run(0, 0);
        Checks.due("18, 19: no entry at hand", "missing missing", Checks.stack(x));
        Checks.due("18, 19: no warnings", 0, x.warnings(7));
    }

    private static void looks() {
        CiteForge x = with(7, "ab", null, "");
        Checks.due("kinds", "2 1 0", x.kind(1) + " " + x.kind(2) + " " + x.kind(3));
        Checks.due("a text of nothing is a text", CiteForge.TEXT, x.kind(0));
        Checks.due("values", "0 0 2 7", x.value(0) + " " + x.value(1) + " " + x.value(2) + " " + x.value(3));
        for (int k : new int[] {-1, 4, 5, 12, Integer.MIN_VALUE, Integer.MAX_VALUE}) {
            Checks.dueThrow("kind " + k + " of 4", IndexOutOfBoundsException.class, () -> x.kind(k));
            Checks.dueThrow("value " + k + " of 4", IndexOutOfBoundsException.class, () -> x.value(k));
            Checks.dueThrow("letter 0 of value " + k + " of 4", IndexOutOfBoundsException.class, () -> x.letter(k, 0));
        }
        for (int k : new int[] {0, 1, 3}) {
            Checks.dueThrow("letter 0 where there is none, " + k, IndexOutOfBoundsException.class, () -> x.letter(k, 0));
        }
        for (int i : new int[] {-1, 2, 3, 60, Integer.MIN_VALUE, Integer.MAX_VALUE}) {
            Checks.dueThrow("letter " + i + " of 2", IndexOutOfBoundsException.class, () -> x.letter(2, i));
        }
        Checks.due("letters", "ab", "" + (char) x.letter(2, 0) + (char) x.letter(2, 1));
        CiteForge none = new CiteForge();
        Checks.dueThrow("kind of none", IndexOutOfBoundsException.class, () -> none.kind(0));
        Checks.dueThrow("value of none", IndexOutOfBoundsException.class, () -> none.value(0));
        Checks.dueThrow("letter of none", IndexOutOfBoundsException.class, () -> none.letter(0, 0));
        Checks.due("empty of none", 0, none.empty());
    }
}
