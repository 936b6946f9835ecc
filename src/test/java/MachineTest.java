/** Promises 11 to 18: define, clear, run, depth, kind, value, letter, empty; operations 0 to 20. */
public final class MachineTest {
    public static void main(String[] args) {
        define();
        clear();
        run();
        limitsOfARun();
        looks();
        givers();
        numbers();
        equal();
        joinAndMove();
        isEmpty();
        nothingThere();
        fullStack();
        control();
        globals();
        entryAtHand();
        Checks.end();
    }

    private static void define() {
        CiteForge x = new CiteForge();
        for (int function = 0; function < 6; function++) {
            Checks.due("promise 11: first", 1, x.define(function, 29 - function, 0));
            Checks.due("promise 11: second", 2, x.define(function, function, -1));
        }
        for (int bad : new int[] {-1, 6, Integer.MIN_VALUE, Integer.MAX_VALUE}) {
            Checks.dueThrow("promise 11: function " + bad, IllegalArgumentException.class, () -> x.define(bad, 0, 0));
        }
        for (int bad : new int[] {-1, 30, Integer.MIN_VALUE, Integer.MAX_VALUE}) {
            Checks.dueThrow("promise 11: operation " + bad, IllegalArgumentException.class, () -> x.define(0, bad, 0));
        }
        for (int i = 3; i <= 24; i++) {
            Checks.due("promise 11: up to 24", i, x.define(5, 9, 0));
        }
        Checks.dueThrow("promise 11: 25th", IllegalStateException.class, () -> x.define(5, 9, 0));
        Checks.dueThrow("promise 11: no operation comes first", IllegalArgumentException.class, () -> x.define(5, 30, 0));
        Checks.due("promise 11: others have room", 3, x.define(4, 9, 0));
    }

    private static void clear() {
        CiteForge x = new CiteForge();
        x.define(2, 0, 1);
        x.define(2, 0, 2);
        x.define(3, 0, 3);
        Checks.due("promise 12: had", 2, x.clear(2));
        Checks.due("promise 12: again", 0, x.clear(2));
        Checks.due("promise 12: runs nothing", 0, x.run(2, 0));
        Checks.due("promise 12: others stay", 1, x.run(3, 0));
        Checks.due("promise 12: begins anew", 1, x.define(2, 0, 7));
        for (int bad : new int[] {-1, 6, Integer.MIN_VALUE, Integer.MAX_VALUE}) {
            Checks.dueThrow("promise 12: function " + bad, IllegalArgumentException.class, () -> x.clear(bad));
        }
    }

    private static void run() {
        CiteForge x = Checks.listed("@a{1}@b{2}@c{3}", 1, "1", "2", "3");
        x.define(0, 18, 0);
        Checks.due("promise 13: once", 1, x.run(0, 0));
        Checks.due("promise 13: without an entry", "missing", Checks.stack(x));
        x.empty();
        Checks.due("promise 13: all", 3, x.run(0, 1));
        Checks.due("promise 13: forwards", "\"1\" \"2\" \"3\"", Checks.stack(x));
        x.empty();
        Checks.due("promise 13: all backwards", 3, x.run(0, 2));
        Checks.due("promise 13: backwards", "\"3\" \"2\" \"1\"", Checks.stack(x));
        Checks.due("promise 13: no operations", 0, x.run(1, 1));
        Checks.due("promise 13: once behind all", 1, x.run(0, 0));
        Checks.due("promise 13: no entry is left at hand", "missing", Checks.top(x, 0));
        for (int bad : new int[] {-1, 6, Integer.MIN_VALUE, Integer.MAX_VALUE}) {
            Checks.dueThrow("promise 13: function " + bad, IllegalArgumentException.class, () -> x.run(bad, 0));
        }
        for (int bad : new int[] {-1, 3, Integer.MIN_VALUE, Integer.MAX_VALUE}) {
            Checks.dueThrow("promise 13: how " + bad, IllegalArgumentException.class, () -> x.run(0, bad));
        }
        Checks.due("promise 13: an empty list", 0, Checks.ran(0, 1).run(0, 1));
    }

    private static void limitsOfARun() {
        CiteForge x = new CiteForge();
        for (int f = 0; f < 4; f++) {
            for (int i = 0; i < 4; i++) {
                x.define(f, 15, f + 1);
            }
        }
        // 4 + 16 + 64 + 256 = 340 operations, and 256 times function 4, which is empty at first.
        Checks.due("promise 13: 340 operations", 340, x.run(0, 0));
        x.define(0, 15, 3);
        x.define(0, 15, 3);
        x.define(0, 15, 5);
        for (int i = 0; i < 24; i++) {
            x.define(5, 22, 0);
        }
        Checks.due("promise 13: 375 operations", 340 + 2 * 5 + 25, x.run(0, 0));
        x.define(0, 15, 5);
        Checks.due("promise 13: 400 operations", 400, x.run(0, 0));
        x.define(0, 0, 1);
        Checks.dueThrow("promise 13: a 401st", UnsupportedOperationException.class, () -> x.run(0, 0));
        Checks.due("promise 13: it is not done", 0, x.depth());
        x.clear(0);
        x.define(0, 0, 1);
        x.define(0, 9, 1);
        Checks.due("promise 13: each run has its own 400", 2, x.run(0, 0));
        allEntriesTogether();
        nineDeep();
    }

    private static void allEntriesTogether() {
        CiteForge x = Checks.listed("@a{1}@a{2}@a{3}@a{4}@a{5}", 1, "1", "2", "3", "4", "5");
        for (int i = 0; i < 20; i++) {
            x.define(1, 22, 0);
        }
        for (int i = 0; i < 3; i++) {
            x.define(0, 15, 1);
        }
        for (int i = 0; i < 16; i++) {
            x.define(0, 22, 0);
        }
        x.define(0, 17, 0);
        Checks.due("promise 13: 5 times 80", 400, x.run(0, 1));
        Checks.due("promise 13: all were done", 5, x.empty());
        x.define(0, 22, 0);
        Checks.dueThrow("promise 13: 5 times 81", UnsupportedOperationException.class, () -> x.run(0, 2));
        Checks.due("promise 13: what was done stays", 4, x.depth());
    }

    private static void nineDeep() {
        Checks.due("promise 13: eight deep", 7 * 8, downTo(7).run(0, 0));
        CiteForge empty = downTo(8);
        Checks.dueThrow("promise 13: an empty function nine deep", UnsupportedOperationException.class, () -> empty.run(0, 0));
        CiteForge x = new CiteForge();
        x.define(0, 17, 1);
        x.define(0, 15, 0);
        Checks.dueThrow("promise 13: nine deep", UnsupportedOperationException.class, () -> x.run(0, 0));
        Checks.due("promise 13: eight were done", 8, x.depth());
        CiteForge y = new CiteForge();
        y.define(0, 14, 6);
        y.define(1, 0, 1);
        Checks.dueThrow("promise 13: nine deep within 14", UnsupportedOperationException.class, () -> y.run(0, 0));
        Checks.due("promise 13: all numbers were taken", 0, y.depth());
        insideTheEighth(13, 0);
        insideTheEighth(14, 1);
        insideTheEighth(15, 1);
    }

    /** Function 0 runs itself up to a level, and there function 1. */
    private static CiteForge downTo(int level) {
        CiteForge x = new CiteForge();
        x.define(0, 17, 0);
        x.define(0, 0, 1);
        x.define(0, 3, 0);
        x.define(0, 10, 0);
        x.define(0, 16, 0);
        x.define(0, 0, level);
        x.define(0, 5, 0);
        x.define(0, 13, 1);
        return x;
    }

    private static void insideTheEighth(int operation, int left) {
        CiteForge x = downTo(7);
        x.define(1, 17, 1);
        Checks.due("promise 13: an operation eight deep", 57, x.run(0, 0));
        x.empty();
        x.define(1, operation, 14);
        x.define(2, 17, 2);
        x.clear(3);
        x.define(3, 0, 0);
        x.define(3, 16, 0);
        x.run(3, 0);
        Checks.dueThrow("promise 13: nine deep by " + operation, UnsupportedOperationException.class, () -> x.run(0, 0));
        Checks.due("promise 13: what " + operation + " took before is taken", left, x.depth());
    }

    private static void looks() {
        CiteForge x = Checks.ran(0, 70000, 1, Checks.bytes("ab"), 2, 't');
        Checks.due("promise 14: depth", 3, x.depth());
        Checks.due("promise 15: missing", CiteForge.MISSING, x.kind(0));
        Checks.due("promise 15: text", CiteForge.TEXT, x.kind(1));
        Checks.due("promise 15: number", CiteForge.NUMBER, x.kind(2));
        Checks.due("promise 16: missing", 0, x.value(0));
        Checks.due("promise 16: text", 2, x.value(1));
        Checks.due("promise 16: number", 70000, x.value(2));
        Checks.due("promise 17: first", (int) 'a', x.letter(1, 0));
        Checks.due("promise 17: last", (int) 'b', x.letter(1, 1));
        for (int bad : new int[] {-1, 3, Integer.MIN_VALUE, Integer.MAX_VALUE}) {
            Checks.dueThrow("promise 15: kind " + bad, IndexOutOfBoundsException.class, () -> x.kind(bad));
            Checks.dueThrow("promise 16: value " + bad, IndexOutOfBoundsException.class, () -> x.value(bad));
            Checks.dueThrow("promise 17: letter of " + bad, IndexOutOfBoundsException.class, () -> x.letter(bad, 0));
            Checks.dueThrow("promise 17: letter " + bad, IndexOutOfBoundsException.class, () -> x.letter(1, bad));
        }
        Checks.dueThrow("promise 17: behind the last", IndexOutOfBoundsException.class, () -> x.letter(1, 2));
        Checks.dueThrow("promise 17: of missing", IndexOutOfBoundsException.class, () -> x.letter(0, 0));
        Checks.dueThrow("promise 17: of a number", IndexOutOfBoundsException.class, () -> x.letter(2, 0));
        CiteForge over = Checks.ran(1, Checks.bytes("ab"), 9, 0, 0, 5);
        Checks.dueThrow("promise 17: of a number where a text was", IndexOutOfBoundsException.class, () -> over.letter(0, 0));
        CiteForge gone = Checks.ran(1, Checks.bytes("ab"), 9, 0, 18, 0);
        Checks.dueThrow("promise 17: of missing where a text was", IndexOutOfBoundsException.class, () -> gone.letter(0, 0));
        Checks.due("promise 16: missing where a text was", 0, gone.value(0));
        Checks.due("promise 18: had", 3, x.empty());
        Checks.due("promise 18: none", 0, x.depth());
        Checks.due("promise 18: again", 0, x.empty());
        Checks.dueThrow("promise 18: gone", IndexOutOfBoundsException.class, () -> x.kind(0));
    }

    private static void givers() {
        Checks.due("0: lowest 32 bits", "-1 1 -2147483648 0",
            Checks.stack(Checks.ran(0, -1, 0, 0x700000001L, 0, 0x80000000L, 0, 1L << 32)));
        Checks.due("1: up to what is no character", "\"ab\" \"\" \"Ab c~}{@\" \" \"",
            Checks.stack(Checks.ran(1, Checks.bytes("ab\ncd"), 1, Checks.bytes("\0ab"), 1, Checks.bytes("Ab c~}{@"), 1, ' ')));
        Checks.due("1: bytes above 126", "\"a\"", Checks.stack(Checks.ran(1, 'a' | 127 << 8 | 'b' << 16)));
        Checks.due("1: -1", "\"\"", Checks.stack(Checks.ran(1, -1)));
        Checks.due("2: without an entry", "missing", Checks.stack(Checks.ran(2, 't')));
    }

    private static void numbers() {
        Checks.due("3", "5", Checks.stack(Checks.ran(0, 7, 0, -2, 3, 0)));
        Checks.due("3 wraps", "-2147483648", Checks.stack(Checks.ran(0, Integer.MAX_VALUE, 0, 1, 3, 0)));
        Checks.due("4", "9", Checks.stack(Checks.ran(0, 7, 0, -2, 4, 0)));
        Checks.due("4 wraps", "2147483647", Checks.stack(Checks.ran(0, Integer.MIN_VALUE, 0, 1, 4, 0)));
        Checks.due("5", "1 0 0", Checks.stack(Checks.ran(0, 1, 0, 2, 5, 0, 0, 2, 0, 2, 5, 0, 0, 3, 0, 2, 5, 0)));
        Checks.due("6", "0 0 1", Checks.stack(Checks.ran(0, 1, 0, 2, 6, 0, 0, 2, 0, 2, 6, 0, 0, 3, 0, 2, 6, 0)));
        Checks.due("5 far apart", "1", Checks.stack(Checks.ran(0, Integer.MIN_VALUE, 0, Integer.MAX_VALUE, 5, 0)));
        CiteForge x = Checks.ran(1, 'a', 0, 4, 3, 0, 0, 4, 2, 't', 4, 0);
        Checks.due("another kind has the number 0", "4 4", Checks.stack(x));
        Checks.due("another kind: warnings", 2, x.warnings(7));
    }

    private static void equal() {
        Checks.due("7: numbers", "1 0", Checks.stack(Checks.ran(0, 2, 0, 2, 7, 0, 0, 2, 0, 3, 7, 0)));
        Checks.due("7: texts", "1 0 0", Checks.stack(Checks.ran(1, 'a', 1, 'a', 7, 0, 1, 'a', 1, 'A', 7, 0,
            1, 'a', 1, Checks.bytes("ab"), 7, 0)));
        Checks.due("7: missing as nothing", "1 1 1 0", Checks.stack(Checks.ran(2, 't', 2, 't', 7, 0, 1, 0, 2, 't', 7, 0,
            2, 't', 1, 0, 7, 0, 2, 't', 1, ' ', 7, 0)));
        CiteForge x = Checks.ran(0, 0, 1, 0, 7, 0, 1, 0, 0, 0, 7, 0, 2, 't', 0, 0, 7, 0, 0, 0, 2, 't', 7, 0, 0, 1, 1, '1', 7, 0);
        Checks.due("7: a number and another kind", "0 0 0 0 0", Checks.stack(x));
        Checks.due("7: no warnings", 0, x.warnings(7));
        x = Checks.ran(7, 0, 1, 'a', 7, 0);
        Checks.due("7: nothing there", "0", Checks.stack(x));
        Checks.due("7: nothing there: warnings", 2, x.warnings(7));
    }

    private static void joinAndMove() {
        Checks.due("8", "\"abc\"", Checks.stack(Checks.ran(1, Checks.bytes("ab"), 1, 'c', 8, 0)));
        CiteForge x = Checks.ran(2, 't', 1, 'c', 8, 0, 0, 1, 8, 0);
        Checks.due("8: missing and a number", "\"c\"", Checks.stack(x));
        Checks.due("8: a warning for the number alone", 1, x.warnings(7));
        CiteForge y = new CiteForge();
        Checks.text(y, 0, Checks.of('x', 59));
        y.define(0, 1, Checks.bytes("yz"));
        y.define(0, 8, 0);
        y.run(0, 0);
        Checks.due("8: sixty", "\"" + Checks.of('x', 59) + "y\"", Checks.stack(y));
        Checks.due("9", "1", Checks.stack(Checks.ran(0, 1, 1, 'a', 9, 0, 2, 't', 9, 0)));
        Checks.due("10", "\"a\" \"a\" 2 2 missing missing", Checks.stack(Checks.ran(1, 'a', 10, 0, 0, 2, 10, 0, 2, 't', 10, 0)));
        Checks.due("11", "0 missing \"a\"", Checks.stack(Checks.ran(0, 0, 1, 'a', 2, 't', 11, 0)));
    }

    private static void isEmpty() {
        CiteForge x = Checks.ran(2, 't', 12, 0, 1, 0, 12, 0, 1, Checks.bytes("   "), 12, 0, 1, Checks.bytes("  a"), 12, 0, 0, 0, 12, 0,
            0, 1, 12, 0);
        Checks.due("12", "1 1 1 0 0 0", Checks.stack(x));
        Checks.due("12: no warnings", 0, x.warnings(7));
    }

    private static void nothingThere() {
        int[] numbers = {3, 4, 5, 6};
        for (int operation : numbers) {
            nothing(operation, 2, "0");
        }
        nothing(7, 2, "1");
        nothing(8, 2, "\"\"");
        nothing(9, 1, "");
        nothing(10, 1, "0 0");
        nothing(11, 2, "0 0");
        nothing(12, 1, "0");
        nothing(13, 1, "");
        nothing(14, 1, "");
        nothing(15, 0, "");
        nothing(16, 1, "");
        nothing(17, 0, "0");
        nothing(18, 0, "missing");
        nothing(19, 0, "missing");
        nothing(20, 1, "");
        nothing(21, 1, "");
        nothing(22, 0, "");
        nothing(23, 1, "0");
        nothing(24, 2, "\"\"");
        nothing(25, 1, "\"\"");
        nothing(26, 1, "\"\"");
        nothing(27, 1, "0");
        nothing(28, 2, "\"\"");
        nothing(29, 3, "\"\"");
        CiteForge x = Checks.ran(0, 5, 11, 0);
        Checks.due("11: one value", "5 0", Checks.stack(x));
        Checks.due("11: one value: warnings", 1, x.warnings(7));
    }

    private static void nothing(int operation, int warnings, String left) {
        CiteForge x = new CiteForge();
        x.define(0, operation, 7);
        x.run(0, 0);
        Checks.due("nothing there for " + operation, left, Checks.stack(x));
        Checks.due("nothing there for " + operation + ": warnings 7", warnings, x.warnings(7));
        Checks.due("nothing there for " + operation + ": warnings 8", 0, x.warnings(8));
        Checks.due("nothing there for " + operation + ": warnings 9", operation == 24 ? 1 : 0, x.warnings(9));
    }

    private static void fullStack() {
        CiteForge x = new CiteForge();
        for (int i = 1; i <= 12; i++) {
            Checks.number(x, 0, i);
        }
        x.run(0, 0);
        Checks.due("twelve values", 12, x.depth());
        Checks.due("twelve values: no warning", 0, x.warnings(8));
        x.clear(0);
        x.define(0, 0, 13);
        x.define(0, 1, 'a');
        x.define(0, 2, 't');
        x.define(0, 18, 0);
        x.define(0, 10, 0);
        x.run(0, 0);
        Checks.due("a full stack loses what is given", 5, x.warnings(8));
        Checks.due("a full stack stays", "1 2 3 4 5 6 7 8 9 10 11 12", Checks.stack(x));
    }

    private static void control() {
        Checks.due("13 above 0: function n / 6 % 6", "1", picked(13, 1, 6 + 2));
        Checks.due("13 at 0: function n % 6", "2", picked(13, 0, 6 + 2));
        Checks.due("13 below 0", "2", picked(13, -5, 6 + 2));
        Checks.due("13: n / 6 % 6 of a large n", "1", picked(13, 1, 36L * 1000000000000L + 6 + 3));
        Checks.due("13: n % 6 of a large n", "3", picked(13, 0, 36L * 1000000000000L + 6 + 3));
        Checks.due("13: highest n", Long.toString(Long.MAX_VALUE / 6 % 6), picked(13, 1, Long.MAX_VALUE));
        for (int operation = 13; operation <= 15; operation++) {
            Checks.due(operation + ": negative n is 0", 4, negative(operation));
        }
        Checks.due("15: n % 6", "4 9", picked(15, 9, 6 * 7 + 4));
        CiteForge x = new CiteForge();
        x.define(0, 14, 6 + 2);
        x.define(1, 17, 0);
        x.define(1, 0, 3);
        x.define(1, 5, 0);
        x.define(2, 17, 0);
        x.define(2, 10, 0);
        x.define(2, 0, 1);
        x.define(2, 3, 0);
        x.define(2, 16, 0);
        Checks.due("14: operations", 1 + 4 * 3 + 3 * 5, x.run(0, 0));
        Checks.due("14: values", "0 1 2", Checks.stack(x));
        x = Checks.ran(0, 0, 0, 5, 0, 4, 0, 3, 14, 6 + 2, 0, 9);
        Checks.due("14: empty functions take numbers up to one that is not above 0", "9", Checks.stack(x));
        Checks.due("14: another kind ends it", "1 9", Checks.stack(Checks.ran(0, 1, 1, 'a', 0, 4, 14, 6 + 2, 0, 9)));
        x = Checks.ran(0, 1, 14, 6 + 2);
        Checks.due("14: nothing there ends it", 1, x.warnings(7));
    }

    /** Functions 1 to 5 give their own number; what is on the stack behind the operation, the highest first. */
    private static String picked(int operation, long number, long n) {
        CiteForge x = new CiteForge();
        for (int f = 1; f < 6; f++) {
            Checks.number(x, f, f);
        }
        Checks.number(x, 0, number);
        x.define(0, operation, n);
        x.run(0, 0);
        StringBuilder all = new StringBuilder();
        for (int k = 0; k < x.depth(); k++) {
            all.append(k == 0 ? "" : " ").append(Checks.top(x, k));
        }
        return all.toString();
    }

    /** How many operations are done when function 0 alone has a further one. */
    private static int negative(int operation) {
        CiteForge x = new CiteForge();
        x.define(0, 0, 0);
        x.define(5, 0, 0);
        x.define(5, 0, 1);
        x.define(5, operation, -7);
        return x.run(5, 0);
    }

    private static void globals() {
        CiteForge x = Checks.ran(0, 7, 16, 5, 0, 8, 16, 2, 17, 0, 17, 1, 17, 6, 17, 3, 17, Long.MAX_VALUE - 2);
        Checks.due("16, 17: n % 4", "0 7 8 0 7", Checks.stack(x));
        x.clear(0);
        x.define(0, 17, 1);
        x.empty();
        x.run(0, 0);
        Checks.due("17: globals stay between runs", "7", Checks.stack(x));
        x = Checks.ran(0, 7, 16, 0, 1, 'a', 16, 0, 17, 0);
        Checks.due("16: another kind is 0", "0", Checks.stack(x));
        Checks.due("16, 17: negative n is 0", "5", Checks.stack(Checks.ran(0, 5, 16, -3, 17, 0)));
        Checks.due("17: negative n is 0", "5", Checks.stack(Checks.ran(0, 5, 16, 0, 17, -3)));
    }

    private static void entryAtHand() {
        CiteForge x = Checks.listed("@Book{Key:1,Tt={A b},crossref={p}}@a{p,u=2}", 1, "key:1");
        x.define(0, 18, 0);
        x.define(0, 19, 0);
        x.define(0, 2, Checks.bytes("tT"));
        x.define(0, 2, Checks.bytes("u\0x"));
        x.define(0, 2, Checks.bytes("v"));
        x.define(0, 2, Checks.bytes("t t"));
        x.define(0, 2, 0);
        x.list(2);
        x.run(0, 1);
        Checks.due("2, 18, 19", "\"key:1\" \"book\" \"A b\" \"2\" missing missing missing", Checks.stack(x));
        x.clear(0);
        x.empty();
        x.define(0, 1, 'a');
        x.define(0, 20, 0);
        x.run(0, 0);
        Checks.due("20: takes without an entry, too", 0, x.depth());
    }
}
