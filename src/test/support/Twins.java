/** Two objects with the same calls, and all that can be seen of each, to find what a call has changed. */
final class Twins {
    private Twins() {
    }

    /** An object that has something of everything. */
    static CiteForge busy() {
        CiteForge x = Checks.database("@string{s=5}@a{p,t=s#z}@b{k,crossref={p},u=7}@c{j,u={}}@d{k}@?");
        x.cite('k');
        x.cite('j');
        x.cite('n');
        x.list(1);
        x.define(0, 18, 0);
        x.define(0, 20, 0);
        x.define(1, 1, Checks.bytes("line one"));
        x.define(1, 21, 0);
        x.define(1, 22, 0);
        x.define(1, 1, Checks.bytes("hand"));
        x.define(1, 21, 0);
        x.define(2, 0, 8);
        x.define(2, 16, 1);
        x.define(2, 0, 9);
        x.define(2, 1, Checks.bytes("text"));
        x.define(2, 18, 0);
        x.run(0, 1);
        x.run(1, 0);
        x.run(2, 0);
        return x;
    }

    static String seen(CiteForge x) {
        StringBuilder all = new StringBuilder("counts");
        for (int what = 0; what < 5; what++) {
            all.append(' ').append(x.count(what));
        }
        all.append(" warnings");
        for (int kind = 1; kind < 10; kind++) {
            all.append(' ').append(x.warnings(kind));
        }
        all.append(" stack ").append(Checks.stack(x)).append(" keys ").append(Checks.keys(x)).append(" fields");
        for (int i = 0; i < x.count(1); i++) {
            all.append(' ').append(Checks.field(x, i, "t")).append(' ').append(Checks.field(x, i, "u"));
        }
        for (int k = 0; k < Math.min(x.count(2), 24); k++) {
            all.append(" line ").append(Checks.line(x, k));
        }
        return all.toString();
    }

    /** All that can be seen of an object, also by calls that change it. */
    static String told(CiteForge x) {
        StringBuilder all = new StringBuilder(seen(x));
        all.append(" sorted ").append(x.sort()).append(' ').append(Checks.keys(x));
        x.empty();
        for (int f = 0; f < 6; f++) {
            all.append(" function ").append(f).append(": ").append(x.run(f, 0)).append(' ').append(Checks.stack(x));
            x.empty();
            all.append(" had ").append(x.clear(f));
        }
        all.append(" globals");
        for (int global = 0; global < 4; global++) {
            x.define(0, 17, global);
        }
        x.run(0, 0);
        all.append(Checks.stack(x)).append(" read ").append(x.read()).append(" cited");
        for (char c = 'i'; c < 'o'; c++) {
            all.append(x.count(4) < 10 ? " " + x.cite(c) : "");
        }
        return all.append(" erased ").append(x.erase()).append(" forgotten ").append(x.forget()).toString();
    }
}
