import java.util.ArrayList;
import java.util.List;
import java.util.NoSuchElementException;

/** The document's words about the machine and the output, for the model: Integer, String and MISSING are its values. */
final class ModelMachine extends Model {
    private static final Object MISSING = new Object();

    private static final class Step {
        final int operation;
        final long n;

        Step(int operation, long n) {
            this.operation = operation;
            this.n = operation >= 13 && n < 0 ? 0 : n;
        }
    }

    private final List<List<Step>> functions = new ArrayList<>();
    private final List<Object> stack = new ArrayList<>();
    private final int[] globals = new int[4];
    private final List<String> lines = new ArrayList<>();
    private String hand = "";
    private Item entry;
    private int done;
    private int deep;

    ModelMachine() {
        for (int f = 0; f < 6; f++) {
            functions.add(new ArrayList<>());
        }
    }

    private List<Step> function(int f) {
        if (f < 0 || f > 5) {
            throw new IllegalArgumentException();
        }
        return functions.get(f);
    }

    int define(int f, int operation, long n) {
        List<Step> steps = function(f);
        if (operation < 0 || operation > 29) {
            throw new IllegalArgumentException();
        }
        if (steps.size() == 24) {
            throw new IllegalStateException();
        }
        steps.add(new Step(operation, n));
        return steps.size();
    }

    int clear(int f) {
        int had = function(f).size();
        function(f).clear();
        return had;
    }

    int run(int f, int how) {
        List<Step> steps = function(f);
        if (how < 0 || how > 2) {
            throw new IllegalArgumentException();
        }
        done = 0;
        deep = 0;
        entry = null;
        if (how == 0) {
            perform(steps);
        }
        for (int i = 0; how != 0 && i < list.size(); i++) {
            entry = list.get(how == 1 ? i : list.size() - 1 - i);
            perform(steps);
        }
        return done;
    }

    private void perform(List<Step> steps) {
        if (deep == 8) {
            throw new UnsupportedOperationException();
        }
        deep++;
        for (Step step : steps) {
            if (done == 400) {
                throw new UnsupportedOperationException();
            }
            done++;
            step(step.operation, step.n);
        }
        deep--;
    }

    private void performNumber(long f) {
        perform(functions.get((int) (f % 6)));
    }

    private Object take() {
        if (stack.isEmpty()) {
            warned[7]++;
            return 0;
        }
        return stack.remove(stack.size() - 1);
    }

    private int takeNumber() {
        boolean none = stack.isEmpty();
        Object value = take();
        if (value instanceof Integer) {
            return (Integer) value;
        }
        warned[7] += none ? 0 : 1;
        return 0;
    }

    private String takeText() {
        boolean none = stack.isEmpty();
        Object value = take();
        if (value instanceof Integer) {
            warned[7] += none ? 0 : 1;
            return "";
        }
        return asText(value);
    }

    private static String asText(Object value) {
        return value == MISSING ? "" : (String) value;
    }

    /** Gives an Integer, a String, or missing for null. */
    private void give(Object value) {
        if (stack.size() == 12) {
            warned[8]++;
            return;
        }
        if (value instanceof String) {
            String text = (String) value;
            stack.add(text.substring(0, Math.min(60, text.length())));
        } else {
            stack.add(value == null ? MISSING : value);
        }
    }

    private void give(boolean truth) {
        give((Object) (truth ? 1 : 0));
    }

    private void step(int operation, long n) {
        if (operation <= 6) {
            simple(operation, n);
        } else if (operation <= 12) {
            values(operation);
        } else if (operation <= 17) {
            control(operation, n);
        } else if (operation <= 22) {
            entries(operation);
        } else {
            texts(operation, n);
        }
    }

    private void simple(int operation, long n) {
        if (operation == 0) {
            give((Object) (int) n);
        } else if (operation == 1) {
            give(textOf(n));
        } else if (operation == 2) {
            give(entry == null ? null : fieldOf(entry, wordOf(n)));
        } else {
            int b = takeNumber();
            int a = takeNumber();
            give((Object) (operation == 3 ? a + b : operation == 4 ? a - b : (operation == 5 ? a < b : a > b) ? 1 : 0));
        }
    }

    private void values(int operation) {
        if (operation == 8) {
            String b = takeText();
            give(takeText() + b);
            return;
        }
        Object b = take();
        if (operation == 7) {
            give(same(take(), b));
        } else if (operation == 10) {
            give(b == MISSING ? null : b);
            give(b == MISSING ? null : b);
        } else if (operation == 11) {
            Object a = take();
            give(b == MISSING ? null : b);
            give(a == MISSING ? null : a);
        } else if (operation == 12) {
            give(!(b instanceof Integer) && asText(b).isBlank());
        }
    }

    private static boolean same(Object a, Object b) {
        if (a instanceof Integer || b instanceof Integer) {
            return a.equals(b);
        }
        return asText(a).equals(asText(b));
    }

    private void control(int operation, long n) {
        if (operation == 13) {
            performNumber(takeNumber() > 0 ? n / 6 : n);
        } else if (operation == 14) {
            performNumber(n / 6);
            while (takeNumber() > 0) {
                performNumber(n);
                performNumber(n / 6);
            }
        } else if (operation == 15) {
            performNumber(n);
        } else if (operation == 16) {
            globals[(int) (n % 4)] = takeNumber();
        } else {
            give((Object) globals[(int) (n % 4)]);
        }
    }

    private void entries(int operation) {
        if (operation == 18) {
            give(entry == null ? null : entry.key);
        } else if (operation == 19) {
            give(entry == null ? null : entry.type);
        } else if (operation == 22) {
            if (!hand.isEmpty()) {
                lines.add(hand);
                hand = "";
            }
        } else if (operation == 21) {
            putOut(takeText());
        } else {
            String text = takeText();
            if (entry != null) {
                entry.sortKey = text;
            }
        }
    }

    private void putOut(String text) {
        hand += text;
        hand = hand.substring(0, Math.min(180, hand.length()));
        while (hand.length() > 30 && hand.indexOf(' ', 3) >= 0) {
            int place = hand.lastIndexOf(' ', 30);
            place = place < 3 ? hand.indexOf(' ', 3) : place;
            lines.add(hand.substring(0, place));
            hand = "  " + hand.substring(place + 1);
        }
    }

    private void texts(int operation, long n) {
        int c = operation == 29 ? takeNumber() : 0;
        int b = operation == 24 || operation >= 28 ? takeNumber() : 0;
        String a = takeText();
        if (operation == 23) {
            give((Object) ModelNames.names(a).size());
        } else if (operation == 24) {
            List<String> names = ModelNames.names(a);
            boolean there = b >= 1 && b <= names.size();
            warned[9] += there ? 0 : 1;
            give(there ? ModelNames.formed(names.get(b - 1), (int) (n % 4)) : "");
        } else if (operation == 25) {
            give(ModelNames.capitals(a, (int) (n % 3)));
        } else if (operation == 26) {
            give(ModelNames.purified(a));
        } else if (operation == 27) {
            give((Object) ModelNames.withoutBraces(a).length());
        } else {
            give(operation == 28 ? ModelNames.prefix(a, b) : ModelNames.part(a, b, c));
        }
    }

    private Object fromTop(int k) {
        if (k < 0 || k >= stack.size()) {
            throw new IndexOutOfBoundsException();
        }
        return stack.get(stack.size() - 1 - k);
    }

    int depth() {
        return stack.size();
    }

    int kind(int k) {
        Object value = fromTop(k);
        return value instanceof Integer ? 0 : value == MISSING ? 2 : 1;
    }

    int value(int k) {
        Object value = fromTop(k);
        return value instanceof Integer ? (Integer) value : asText(value).length();
    }

    int letter(int k, int i) {
        Object value = fromTop(k);
        return characterOf(value instanceof Integer ? "" : asText(value), i);
    }

    int empty() {
        int had = stack.size();
        stack.clear();
        return had;
    }

    int line(int k, int i) {
        if (k < 0 || k >= lines.size() || k >= 24) {
            throw new NoSuchElementException();
        }
        return characterOf(lines.get(k), i);
    }

    int count(int what) {
        switch (what) {
            case 0:
                return entries();
            case 1:
                return list.size();
            case 2:
                return lines.size();
            case 3:
                return hand.length();
            case 4:
                return citations();
            default:
                throw new IndexOutOfBoundsException();
        }
    }
}
