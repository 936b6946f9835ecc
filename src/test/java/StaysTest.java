import java.util.function.Consumer;

/** What a call that is not refused leaves as it was, and that a call that only asks changes nothing. */
public final class StaysTest {
    public static void main(String[] args) {
        asking();
        writeAndErase();
        read();
        citing();
        listing();
        sorting();
        functions();
        emptying();
        running();
        Checks.end();
    }

    private static void same(String what, Consumer<CiteForge> call) {
        CiteForge x = Twins.busy();
        call.accept(x);
        Checks.due(what + " changes nothing", Twins.told(Twins.busy()), Twins.told(x));
    }

    /** What can be seen stays, though something that can't be seen at once may change. */
    private static CiteForge seenStays(String what, Consumer<CiteForge> call) {
        CiteForge x = Twins.busy();
        call.accept(x);
        Checks.due(what + " leaves what is seen", Twins.seen(Twins.busy()), Twins.seen(x));
        return x;
    }

    private static void asking() {
        same("key", x -> x.key(0));
        same("field", x -> x.field(0, 't', 0));
        same("depth", x -> x.depth());
        same("kind", x -> x.kind(0));
        same("value", x -> x.value(1));
        same("letter", x -> x.letter(1, 3));
        same("line", x -> x.line(0, 7));
        for (int what = 0; what < 5; what++) {
            int each = what;
            same("count " + what, x -> x.count(each));
        }
        for (int kind = 1; kind < 10; kind++) {
            int each = kind;
            same("warnings " + kind, x -> x.warnings(each));
        }
        same("citing again", x -> x.cite('K'));
        same("clearing an empty function", x -> x.clear(5));
        same("running an empty function", x -> x.run(5, 0));
        same("running an empty function for all", x -> x.run(5, 1));
        same("running an empty function for all backwards", x -> x.run(5, 2));
    }

    private static void writeAndErase() {
        seenStays("write", x -> x.write(Checks.bytes("@e{new} "), 8));
        CiteForge x = seenStays("erase", y -> y.erase());
        Checks.due("erase: entries stay for a list", 3, x.list(1));
        Checks.due("erase: fields stay", "5", Checks.field(x, 0, "t"));
        Checks.due("erase: nothing is read then", 0, x.read());
        Checks.due("erase: the answer of nothing", 0, x.erase());
    }

    private static void read() {
        CiteForge x = Twins.busy();
        Checks.due("read: entries", 3, x.read());
        Checks.due("read: the list is empty", 0, x.count(1));
        Checks.due("read: lines stay", 1, x.count(2));
        Checks.due("read: the line at hand stays", 4, x.count(3));
        Checks.due("read: citations stay", 3, x.count(4));
        Checks.due("read: the stack stays", "9 \"text\" missing", Checks.stack(x));
        Checks.due("read: warnings go on", "2 2 0 2 0 1 0 0 0", warnings(x));
        x.empty();
        x.clear(0);
        x.define(0, 17, 1);
        x.run(0, 0);
        Checks.due("read: globals stay", "8", Checks.stack(x));
        x.empty();
        Checks.due("read: functions stay", 5, x.run(2, 0));
        Checks.due("read: the text stays", 3, x.read());
    }

    private static String warnings(CiteForge x) {
        StringBuilder all = new StringBuilder();
        for (int kind = 1; kind < 10; kind++) {
            all.append(kind == 1 ? "" : " ").append(x.warnings(kind));
        }
        return all.toString();
    }

    private static void citing() {
        CiteForge x = Twins.busy();
        Checks.due("cite: a new one", true, x.cite('p'));
        Checks.due("cite: the list stays", "k j p", Checks.keys(x));
        Checks.due("cite: no warning before a list is made", 1, x.warnings(6));
        Checks.due("forget: had", 4, x.forget());
        Checks.due("forget: the list stays", "k j p", Checks.keys(x));
        Checks.due("forget: its fields stay", "5", Checks.field(x, 0, "t"));
        Checks.due("forget: it is sorted", true, x.sort());
        Checks.due("forget: it is run", 6, x.run(0, 1));
        Checks.due("forget: the next list", 0, x.list(1));
    }

    private static void listing() {
        CiteForge x = Twins.busy();
        Checks.due("list: the answer", 2, x.list(2));
        Checks.due("list: the list", "k j", Checks.keys(x));
        Checks.due("list: citations stay", 3, x.count(4));
        Checks.due("list: entries stay", 3, x.count(0));
        Checks.due("list: warned of again", 2, x.warnings(6));
        Checks.due("list: the stack stays", "9 \"text\" missing", Checks.stack(x));
        Checks.due("list: sort keys are nothing", false, x.sort());
        Checks.due("list: one that was left out", 3, x.list(1));
        x.clear(3);
        x.define(3, 1, 'z');
        x.define(3, 20, 0);
        x.run(3, 1);
        x.list(2);
        x.list(1);
        Checks.due("list: sort keys of one that comes back", false, x.sort());
    }

    private static void sorting() {
        CiteForge x = Twins.busy();
        Checks.due("sort: the answer", true, x.sort());
        Checks.due("sort: the list", "j k p", Checks.keys(x));
        Checks.due("sort: fields go with their entries", "5 7", Checks.field(x, 1, "t") + " " + Checks.field(x, 1, "u"));
        Checks.due("sort: entries stay as they were", "k j p", listedAnew(x));
        Checks.due("sort: warnings stay but for the list's", "1 1 0 1 0 2 0 0 0", warnings(x));
    }

    private static String listedAnew(CiteForge x) {
        x.list(1);
        return Checks.keys(x);
    }

    private static void functions() {
        CiteForge x = seenStays("define", y -> y.define(2, 9, 0));
        Checks.due("define: at its end", 6, x.run(2, 0));
        x = seenStays("clear", y -> y.clear(2));
        Checks.due("clear: one alone", "2 5 0", x.clear(0) + " " + x.clear(1) + " " + x.clear(2));
    }

    private static void emptying() {
        CiteForge x = Twins.busy();
        Checks.due("empty: had", 3, x.empty());
        CiteForge twin = Twins.busy();
        twin.define(5, 9, 0);
        for (int i = 0; i < 3; i++) {
            twin.run(5, 0);
        }
        Checks.due("empty: as if all were taken", Twins.seen(twin), Twins.seen(x));
    }

    private static void running() {
        CiteForge x = Twins.busy();
        x.define(5, 0, 1);
        x.define(5, 9, 0);
        for (int how = 0; how < 3; how++) {
            Checks.due("run: the answer, how " + how, how == 0 ? 2 : 6, x.run(5, how));
            Checks.due("run: all else stays, how " + how, Twins.seen(Twins.busy()), Twins.seen(x));
        }
    }
}
