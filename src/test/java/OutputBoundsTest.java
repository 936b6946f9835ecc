import java.util.NoSuchElementException;

/** The bounds of the output: a line's 30 and 180 characters, where it is broken, and the 24 lines that are kept. */
public final class OutputBoundsTest {
    public static void main(String[] args) {
        moreThan30();
        behindItsThird();
        lastWith30Before();
        firstOneElse();
        asLongAs();
        twoSpacesBefore();
        atMost180();
        roomThenBroken();
        endsIfItHasCharacters();
        first24Kept();
        brokenLinesKept();
        charactersOfALine();
        countsOfLines();
        Checks.end();
    }

    private static void end(CiteForge x) {
        x.clear(1);
        x.define(1, 22, 0);
        x.run(1, 0);
    }

    private static CiteForge put(String... texts) {
        CiteForge x = new CiteForge();
        for (String text : texts) {
            Checks.put(x, text);
        }
        return x;
    }

    /** The lines, and behind "/" the line at hand. */
    private static String page(CiteForge x) {
        int lines = x.count(2);
        end(x);
        StringBuilder all = new StringBuilder();
        for (int k = 0; k < x.count(2); k++) {
            all.append(k == lines ? "/" : k == 0 ? "" : "|").append(Checks.line(x, k));
        }
        return all.toString();
    }

    private static void breaks(String what, String want, String... texts) {
        Checks.due(what, want, page(put(texts)));
    }

    private static String x(int many) {
        return Checks.of('x', many);
    }

    private static void moreThan30() {
        breaks("29", "/abc " + x(25), "abc " + x(25));
        breaks("30", "/abc " + x(26), "abc " + x(26));
        breaks("31", "abc/  " + x(27), "abc " + x(27));
        breaks("30 of two", "/abc " + x(26), "abc ", x(26));
        breaks("31 of two", "abc/  " + x(27), "abc ", x(27));
        breaks("31 by one more", "abc/  " + x(26) + "y", "abc " + x(26), "y");
        breaks("31 by a space", "abc " + x(26) + "/  ", "abc " + x(26), " ");
        breaks("31 without a space", "/" + x(31), x(31));
        Checks.due("31 without a space: at hand", 31, put(x(31)).count(3));
    }

    private static void behindItsThird() {
        breaks("the first", "/ " + x(40), " " + x(40));
        breaks("the second", "/a " + x(40), "a " + x(40));
        breaks("the third", "/ab " + x(40), "ab " + x(40));
        breaks("the fourth", "abc/  " + x(40), "abc " + x(40));
        breaks("the fifth", "abcd/  " + x(40), "abcd " + x(40));
        breaks("the first three", "/   " + x(40), "   " + x(40));
        breaks("the first four", "   /  " + x(40), "    " + x(40));
    }

    private static void lastWith30Before() {
        for (int before = 27; before <= 30; before++) {
            breaks(before + " before", x(before) + "/  " + "yyyy", x(before) + " yyyy");
        }
        breaks("29 and 30 before", x(29) + " /  y", x(29) + "  y");
        breaks("30 and 31 before", x(30) + "/   y", x(30) + "  y");
        breaks("3 and 30 before", "abc " + x(26) + "/  y", "abc " + x(26) + " y");
        breaks("3 and 31 before", "abc/  " + x(27) + " ", "abc " + x(27) + " ");
        breaks("3 and 31 before, and more behind", "abc|  " + x(27) + "/  y", "abc " + x(27) + " y");
        breaks("the last of many", "a bb ccc dddd eeeee ffffff ggg/  hhhhhhhh", "a bb ccc dddd eeeee ffffff ggg hhhhhhhh");
    }

    private static void firstOneElse() {
        breaks("31 before", x(31) + "/  y", x(31) + " y");
        breaks("31 and 33 before", x(31) + "/  y z", x(31) + " y z");
        breaks("59 before", x(59) + "/  ", x(59) + " ");
        breaks("those up to the third do not count", "a " + x(40) + "/  y", "a " + x(40) + " y");
    }

    private static void asLongAs() {
        breaks("broken twice", x(30) + "|  " + x(20) + "/  yyyyyyyyyy", x(30) + " " + x(20), " yyyyyyyyyy");
        breaks("broken twice at once", x(28) + "|  " + x(28) + "/  y", x(28) + " " + x(28) + " y");
        // Two spaces and 28 characters are 30.
        breaks("the rest has 30", x(30) + "/  " + x(28), x(30) + " " + x(28));
        breaks("the rest has 31", x(30) + "/  " + x(29), x(30) + " " + x(29));
        breaks("the rest has 31 and a space", x(29) + "|  " + x(27) + "/  y", x(29) + " " + x(27) + " y");
        breaks("the two spaces are no place", x(31) + "/  " + x(28), x(31) + " ", x(28));
        breaks("a space behind the two is none, either", x(30) + "/   " + x(28), x(30) + "  ", x(28));
        breaks("a second space behind the two is one", x(30) + "|   /  " + x(28), x(30) + "   ", x(28));
        breaks("sixty spaces", Checks.of(' ', 30) + "|" + Checks.of(' ', 30) + "/  ", Checks.of(' ', 60));
    }

    private static void twoSpacesBefore() {
        breaks("nothing behind", x(31) + "/  ", x(31) + " ");
        Checks.due("nothing behind: at hand", 2, put(x(31) + " ").count(3));
        breaks("what comes then", x(31) + "/  y", x(31) + " ", "y");
        CiteForge ended = put(x(31) + " ");
        end(ended);
        Checks.put(ended, "y");
        Checks.due("a line that begins anew has none", x(31) + "|  /y", page(ended));
    }

    private static CiteForge atHand(int many) {
        CiteForge x = new CiteForge();
        for (int left = many; left > 0; left -= 60) {
            Checks.put(x, x(Math.min(left, 60)));
        }
        return x;
    }

    private static void atMost180() {
        for (int many = 178; many <= 182; many++) {
            CiteForge x = atHand(many);
            Checks.due(many + " at hand", Math.min(many, 180), x.count(3));
            Checks.due(many + " at hand: no line", 0, x.count(2));
            Checks.due(many + " at hand: the line", "/" + x(Math.min(many, 180)), page(x));
        }
        CiteForge x = atHand(121);
        Checks.put(x, Checks.of('y', 60));
        Checks.due("59 of 60 have room", "/" + x(121) + Checks.of('y', 59), page(x));
        x = atHand(180);
        Checks.put(x, "y");
        Checks.put(x, " ");
        Checks.due("full", "/" + x(180), page(x));
    }

    private static void roomThenBroken() {
        CiteForge x = atHand(179);
        Checks.put(x, " y");
        Checks.due("room for the space", x(179) + "/  ", page(x));
        x = atHand(178);
        Checks.put(x, " yz");
        Checks.due("room for one behind the space", x(178) + "/  y", page(x));
        x = atHand(180);
        Checks.put(x, " y");
        Checks.due("no room for the space", "/" + x(180), page(x));
        x = atHand(130);
        Checks.put(x, " " + Checks.of('y', 59));
        Checks.due("it is cut before it is broken", x(130) + "/  " + Checks.of('y', 49), page(x));
    }

    private static void endsIfItHasCharacters() {
        CiteForge x = new CiteForge();
        end(x);
        Checks.due("none", 0, x.count(2));
        Checks.put(x, "");
        end(x);
        Checks.due("a text of nothing", 0, x.count(2));
        Checks.put(x, "a");
        end(x);
        Checks.due("one", 1, x.count(2));
        end(x);
        Checks.due("it has ended", 1, x.count(2));
        Checks.put(x, " ");
        end(x);
        Checks.due("a space", 2, x.count(2));
        Checks.put(x, x(31) + " ");
        end(x);
        Checks.due("the two spaces", 4, x.count(2));
        Checks.due("nothing at hand", 0, x.count(3));
        Checks.due("the two spaces are a line", "  ", Checks.line(x, 3));
    }

    private static CiteForge lines(int many) {
        CiteForge x = new CiteForge();
        // Eight lines in a run, so that an object has few calls.
        for (int i = 0; i < many; i++) {
            x.define(0, 1, 'A' + i);
            x.define(0, 21, 0);
            x.define(0, 22, 0);
            if (i % 8 == 7 || i == many - 1) {
                x.run(0, 0);
                x.clear(0);
            }
        }
        return x;
    }

    private static void first24Kept() {
        for (int many : new int[] {0, 1, 23, 24, 25, 26, 40}) {
            CiteForge x = lines(many);
            Checks.due(many + " lines", many, x.count(2));
            for (int k = 0; k < Math.min(many, 24); k++) {
                Checks.due(many + " lines: " + k, 'A' + k, x.line(k, 0));
            }
            for (int k : new int[] {24, 25, many, many + 1, -1, Integer.MIN_VALUE, Integer.MAX_VALUE}) {
                if (k < 0 || k >= Math.min(many, 24)) {
                    Checks.dueThrow(many + " lines: " + k, NoSuchElementException.class, () -> x.line(k, 0));
                }
            }
        }
    }

    private static void brokenLinesKept() {
        CiteForge x = lines(23);
        Checks.put(x, x(28) + " " + x(28) + " y");
        Checks.due("the 24th and 25th at once", 25, x.count(2));
        Checks.due("the 24th is kept", x(28), Checks.line(x, 23));
        Checks.dueThrow("the 25th is not", NoSuchElementException.class, () -> x.line(24, 0));
        Checks.due("the line at hand goes on", 3, x.count(3));
    }

    private static void charactersOfALine() {
        CiteForge x = atHand(180);
        Checks.dueThrow("the line at hand is none", NoSuchElementException.class, () -> x.line(0, 0));
        end(x);
        Checks.due("the first of 180", (int) 'x', x.line(0, 0));
        Checks.due("the last of 180", (int) 'x', x.line(0, 179));
        Checks.put(x, "a");
        end(x);
        Checks.due("the only one", (int) 'a', x.line(1, 0));
        Checks.dueThrow("behind the only one", IndexOutOfBoundsException.class, () -> x.line(1, 1));
        for (int i : new int[] {-1, 180, 181, Integer.MIN_VALUE, Integer.MAX_VALUE}) {
            Checks.dueThrow("character " + i + " of 180", IndexOutOfBoundsException.class, () -> x.line(0, i));
            Checks.dueThrow("character " + i + " of no line", NoSuchElementException.class, () -> x.line(2, i));
        }
    }

    private static void countsOfLines() {
        CiteForge x = put(x(30));
        Checks.due("at hand: 30", 30, x.count(3));
        Checks.due("lines: 0", 0, x.count(2));
        Checks.put(x, " ");
        Checks.due("at hand: the two spaces", 2, x.count(3));
        Checks.due("lines: 1", 1, x.count(2));
        for (int what : new int[] {-1, 5, 6, Integer.MIN_VALUE, Integer.MAX_VALUE}) {
            Checks.dueThrow("count " + what, IndexOutOfBoundsException.class, () -> x.count(what));
        }
        for (int kind : new int[] {-1, 0, 10, 11, Integer.MIN_VALUE, Integer.MAX_VALUE}) {
            Checks.dueThrow("warnings " + kind, IndexOutOfBoundsException.class, () -> x.warnings(kind));
        }
        for (int kind = 1; kind <= 9; kind++) {
            Checks.due("warnings " + kind, 0, x.warnings(kind));
        }
    }
}
