import java.util.Random;
import java.util.function.Supplier;

/** Runs of calls, made by a fixed row of seeds, on a CiteForge and on the model: every answer must be the same. */
public final class ModelTest {
    private static final int RUNS = 3000;
    private static final int CALLS = 512;
    private static final String[] KEYS = {"k", "k1", "K2", "a:b", "c-d", "12", "eightlet", "k3", "k4", "k5", "k6", "k7"};
    private static final String[] FIELDS = {"t", "author", "title", "Year", "crossref", "n", "x1", "note"};
    private static final String[] NAMES = {
        "Ann Bee", "Jean de la Cruz", "von Dyk, Eva", "Fox, Jr, Gus", "{Hill and Co}", "de {La} x", "J~K. Lee", "a, b, c, d", ",",
        "{\\'E}mile Zo", "Lo-Mo {X} y", "{}", "and", "}x{ y", "1 2 3", "Mc{d}Q r S", "t u V w, x Y", "Ab,, Cd",
    };
    private static final String[] LETTERS = {
        "a", "B", "c", " ", " ", "{", "}", ":", ": ", "-", "~", ",", "and", " and ", " and and ", "7", "x", "Y", "of", "The ", ".", "\\",
    };
    private static final String[] NOISE = {"@", "{", "}", "\"", ",", "=", "#", " ", "\n", "a", "?", "9", "@a{", "@comment{", "@string"};

    private static final int[] reached = new int[10];
    private static final int[] refused = new int[5];

    private final Random random;
    private final String run;
    private final CiteForge x = new CiteForge();
    private final ModelMachine model = new ModelMachine();
    private int calls;

    private ModelTest(int seed) {
        random = new Random(seed);
        run = "run " + seed + ", ";
    }

    public static void main(String[] args) {
        int runs = args.length > 0 ? Integer.parseInt(args[0]) : RUNS;
        for (int seed = 0; seed < runs; seed++) {
            new ModelTest(seed).go();
        }
        for (int kind = 1; kind < 10; kind++) {
            Checks.due("there were warnings " + kind, true, reached[kind] > 0);
        }
        for (int kind = 0; kind < refused.length; kind++) {
            Checks.due("there was each exception", true, refused[kind] > 0);
        }
        Checks.end();
    }

    private void go() {
        int rounds = 1 + random.nextInt(3);
        for (int round = 0; round < rounds; round++) {
            fillDatabase(random.nextInt(4) == 0 ? 400 : 40 + random.nextInt(280));
            same("read()", x::read, model::read);
            citeSome();
            list(random.nextInt(12) - 1 < 0 ? 0 : 1 + random.nextInt(3));
            for (int part = random.nextInt(4); part >= 0; part--) {
                defineSome();
                runSome();
                lookAtStack();
            }
            sortAndLook();
            lookAround();
            change();
        }
        lookAtLines();
        for (int kind = 1; kind < 10; kind++) {
            reached[kind] += model.warned[kind];
        }
    }

    /** Makes the call on both, unless the object has had its calls. */
    private void same(String call, Supplier<Object> real, Supplier<Object> due) {
        if (calls == CALLS) {
            return;
        }
        calls++;
        Checks.due(run + "call " + calls + ": " + call, answer(due, true), answer(real, false));
    }

    private static String answer(Supplier<Object> call, boolean counts) {
        try {
            return String.valueOf(call.get());
        } catch (RuntimeException e) {
            String name = e.getClass().getSimpleName();
            String all = "IllegalArgumentException IllegalStateException IndexOutOfBoundsException "
                + "NoSuchElementException UnsupportedOperationException";
            String[] names = all.split(" ");
            for (int i = 0; counts && i < names.length; i++) {
                refused[i] += names[i].equals(name) ? 1 : 0;
            }
            return "throws." + name;
        }
    }

    private String one(String[] of) {
        return of[random.nextInt(of.length)];
    }

    private boolean rarely() {
        return random.nextInt(12) == 0;
    }

    private void fillDatabase(int aim) {
        StringBuilder text = new StringBuilder();
        boolean terse = random.nextInt(4) == 0;
        int wild = random.nextInt(3);
        while (text.length() < aim) {
            int kind = random.nextInt(6);
            text.append(kind == 0 ? string() : kind == 1 && terse ? "@string{" + one(KEYS) + "=" + one(KEYS) + "}"
                : terse ? "@a{" + one(KEYS) + "}" : kind == 2 ? crowdedEntry() : entry());
            if (wild > 0 && random.nextInt(5) < wild) {
                text.insert(random.nextInt(text.length() + 1), one(NOISE));
            }
        }
        String all = text.substring(0, Math.min(text.length(), random.nextInt(3) == 0 ? 400 : 320));
        for (int i = 0; i < all.length(); i += 8) {
            String part = all.substring(i, Math.min(i + 8, all.length()));
            write(Checks.bytes(part), part.length());
        }
        if (rarely()) {
            write(random.nextLong(), random.nextInt(11) - 1);
        }
    }

    private void write(long eight, int n) {
        same("write(" + eight + ", " + n + ")", () -> x.write(eight, n), () -> model.write(eight, n));
    }

    private String blanks() {
        return random.nextInt(4) == 0 ? random.nextBoolean() ? " " : "\n " : "";
    }

    private String string() {
        return "@String{" + blanks() + one(KEYS) + blanks() + "=" + value() + "}";
    }

    private String entry() {
        StringBuilder text = new StringBuilder("@").append(random.nextInt(20) == 0 ? "Comment" : "Book").append(blanks());
        text.append("{").append(blanks()).append(one(KEYS));
        for (int many = random.nextInt(random.nextInt(5) == 0 ? 9 : 4); many > 0; many--) {
            boolean refers = random.nextInt(3) == 0;
            text.append(blanks()).append(",").append(blanks()).append(refers ? "crossref" : one(FIELDS)).append("=");
            text.append(refers ? "{" + one(KEYS) + "}" : value());
        }
        return text.append(random.nextInt(3) == 0 ? "," : "").append(blanks()).append("}").append(blanks()).toString();
    }

    /** About as many fields as an entry can have, some of them twice. */
    private String crowdedEntry() {
        StringBuilder text = new StringBuilder("@a{").append(one(KEYS));
        int from = random.nextInt(FIELDS.length);
        for (int many = 4 + random.nextInt(5); many > 0; many--) {
            text.append(",").append(rarely() ? one(FIELDS) : FIELDS[(from + many) % FIELDS.length]).append("=").append(many);
        }
        return text.append("}").toString();
    }

    private String value() {
        StringBuilder text = new StringBuilder(blanks());
        for (int many = random.nextInt(4) == 0 ? random.nextInt(3) : 0; many >= 0; many--) {
            int kind = random.nextInt(6);
            String inner = kind == 0 ? people() : letters(random.nextInt(rarely() ? 40 : 8));
            text.append(kind < 3 ? "{" + inner + "}" : kind == 3 ? "\"" + inner + "\"" : kind == 4 ? one(KEYS)
                : String.valueOf(random.nextInt(rarely() ? 2000000000 : 3000)));
            text.append(many > 0 ? blanks() + "#" + blanks() : blanks());
        }
        return text.toString();
    }

    private String people() {
        StringBuilder text = new StringBuilder(one(NAMES));
        for (int more = random.nextInt(3); more > 0; more--) {
            text.append(" and ").append(one(NAMES));
        }
        return text.toString();
    }

    private String letters(int many) {
        StringBuilder text = new StringBuilder();
        for (int i = 0; i < many; i++) {
            text.append(one(LETTERS));
        }
        return text.toString();
    }

    private void citeSome() {
        for (int many = random.nextInt(rarely() ? 13 : 6); many > 0; many--) {
            long word = rarely() ? random.nextLong() : Checks.bytes(one(KEYS));
            same("cite(" + word + ")", () -> x.cite(word), () -> model.cite(word));
        }
    }

    private void list(int min) {
        same("list(" + min + ")", () -> x.list(min), () -> model.list(min));
    }

    private void define(int f, int operation, long n) {
        same("define(" + f + ", " + operation + ", " + n + ")", () -> x.define(f, operation, n),
            () -> model.define(f, operation, n));
    }

    private void defineText(int f) {
        int kind = random.nextInt(12);
        String text = kind < 4 ? people() : kind == 4 ? (random.nextBoolean() ? " " : "") + "AbCdEfGh"
            : letters(1 + random.nextInt(rarely() ? 30 : 9));
        for (int i = 0; i < text.length(); i += 8) {
            define(f, 1, Checks.bytes(text.substring(i, Math.min(i + 8, text.length()))));
            if (i > 0) {
                define(f, 8, 0);
            }
        }
    }

    private void defineSome() {
        int f = rarely() ? random.nextInt(8) - 1 : random.nextInt(6);
        if (random.nextBoolean()) {
            same("clear(" + f + ")", () -> x.clear(f), () -> model.clear(f));
        }
        for (int many = random.nextInt(10); many >= 0; many--) {
            int kind = random.nextInt(16);
            if (kind < 8) {
                defineWork(f);
            } else if (kind == 8) {
                defineOutput(f);
            } else {
                defineAny(f);
            }
        }
    }

    /** A text, what an operation on texts asks for above it, the operation, and perhaps what is done with its answer. */
    private void defineWork(int f) {
        if (random.nextInt(3) == 0) {
            define(f, 2, Checks.bytes(one(FIELDS)));
        } else {
            defineText(f);
        }
        int operation = rarely() ? 25 : 20 + random.nextInt(10);
        for (int numbers = operation == 29 ? 2 : operation == 24 || operation == 28 ? 1 : 0; numbers > 0; numbers--) {
            define(f, 0, rarely() ? random.nextInt() : random.nextInt(14) - 4);
        }
        define(f, operation, random.nextInt(9) - 1);
        int use = random.nextInt(6);
        if (use < 2) {
            define(f, 20 + use, 0);
        }
    }

    /** A text that is put out as it is and, some times, doubled, so that long lines come about. */
    private void defineOutput(int f) {
        defineText(f);
        for (int many = random.nextInt(4); many > 0; many--) {
            define(f, 10, 0);
            define(f, 21, 0);
            define(f, 10, 0);
            define(f, 8, 0);
        }
        define(f, 21, 0);
        if (random.nextBoolean()) {
            define(f, 22, 0);
        }
    }

    private void defineAny(int f) {
        int operation = rarely() ? random.nextInt(34) - 2 : random.nextInt(22);
        long n = rarely() ? random.nextLong() : random.nextInt(40) - 2;
        define(f, operation, operation == 2 ? Checks.bytes(one(FIELDS)) : n);
    }

    private void runSome() {
        for (int many = random.nextInt(4); many >= 0; many--) {
            int f = rarely() ? random.nextInt(8) - 1 : random.nextInt(6);
            int how = rarely() ? random.nextInt(5) - 1 : random.nextInt(3);
            same("run(" + f + ", " + how + ")", () -> x.run(f, how), () -> model.run(f, how));
        }
    }

    private void lookAtStack() {
        same("depth()", x::depth, model::depth);
        int looked = Math.min(4, model.depth()) + (rarely() ? 2 : 0);
        for (int at = rarely() ? -1 : 0; at < looked; at++) {
            int k = at;
            same("kind(" + k + ")", () -> x.kind(k), () -> model.kind(k));
            same("value(" + k + ")", () -> x.value(k), () -> model.value(k));
            int many = k < 0 || k >= model.depth() || model.kind(k) != CiteForge.TEXT ? 0 : model.value(k);
            for (int each = many == 0 ? 0 : random.nextInt(3); each < many + (rarely() ? 1 : 0); each += 1 + random.nextInt(4)) {
                int i = each;
                same("letter(" + k + ", " + i + ")", () -> x.letter(k, i), () -> model.letter(k, i));
            }
        }
        if (random.nextInt(3) == 0) {
            same("empty()", x::empty, model::empty);
        }
    }

    private void sortAndLook() {
        if (random.nextInt(3) > 0) {
            same("sort()", x::sort, model::sort);
        }
        int entries = model.count(1);
        for (int at = rarely() ? -1 : 0; at < entries + (rarely() ? 1 : 0); at++) {
            int i = at;
            same("key(" + i + ")", () -> x.key(i), () -> model.key(i));
            for (int many = random.nextInt(4); many > 0; many--) {
                long word = rarely() ? random.nextLong() : Checks.bytes(one(FIELDS));
                int k = random.nextInt(rarely() ? 70 : 5) - (rarely() ? 1 : 0);
                same("field(" + i + ", " + word + ", " + k + ")", () -> x.field(i, word, k), () -> model.field(i, word, k));
            }
        }
    }

    private void lookAround() {
        for (int each = rarely() ? 0 : 1; each < (rarely() ? 11 : 10); each++) {
            int kind = each;
            same("warnings(" + kind + ")", () -> x.warnings(kind), () -> model.warnings(kind));
        }
        for (int each = rarely() ? -1 : 0; each < (rarely() ? 6 : 5); each++) {
            int what = each;
            same("count(" + what + ")", () -> x.count(what), () -> model.count(what));
        }
    }

    private void change() {
        int kind = random.nextInt(4);
        if (kind == 0) {
            same("forget()", x::forget, model::forget);
        } else if (kind > 1) {
            same("erase()", x::erase, model::erase);
        }
    }

    private void lookAtLines() {
        int lines = Math.min(25, model.count(2) + 1);
        for (int at = rarely() ? -1 : 0; at < lines; at++) {
            int k = at;
            for (int each = rarely() ? -1 : 0; each < 34; each += 1 + random.nextInt(6)) {
                int i = each;
                same("line(" + k + ", " + i + ")", () -> x.line(k, i), () -> model.line(k, i));
            }
        }
    }
}
