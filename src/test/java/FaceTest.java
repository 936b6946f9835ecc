import java.lang.reflect.Constructor;
import java.lang.reflect.Executable;
import java.lang.reflect.Field;
import java.lang.reflect.InvocationTargetException;
import java.lang.reflect.Method;
import java.lang.reflect.Modifier;
import java.util.ArrayList;
import java.util.Arrays;
import java.util.Collections;
import java.util.List;
import java.util.Random;

/** The public face, and calls of any kind in any order: they end, and throw nothing but what the face says. */
public final class FaceTest {
    private static final String[] FACE = {
        "CiteForge()", "boolean cite(long) IllegalArgumentException IllegalStateException", "boolean sort()",
        "int clear(int) IllegalArgumentException", "int count(int) IndexOutOfBoundsException",
        "int define(int, int, long) IllegalArgumentException IllegalStateException", "int depth()", "int empty()",
        "int erase()", "int field(int, long, int) IndexOutOfBoundsException NoSuchElementException", "int forget()",
        "int kind(int) IndexOutOfBoundsException", "int letter(int, int) IndexOutOfBoundsException",
        "int line(int, int) IndexOutOfBoundsException NoSuchElementException", "int list(int) IllegalArgumentException",
        "int read()", "int run(int, int) IllegalArgumentException UnsupportedOperationException",
        "int value(int) IndexOutOfBoundsException", "int warnings(int) IndexOutOfBoundsException",
        "int write(long, int) IllegalArgumentException IllegalStateException", "long key(int) IndexOutOfBoundsException",
    };
    private static final String[] PARTS = {
        "@", "@a{", "@string{", "@comment{", "k", "k1", "k2", ",", "=", "}", "{", "\"", "#", " ", "\n", "t", "u", "crossref",
        "123456789", "0", "a and b", " and ", "~", ":", "-", "von", "X", "xxxxxxxxxxxxxxxx", "@a{k1,crossref={k2},t={A b, C}}",
        "@b{k2,u=\"x {y} z\"}", "@string{s=\"long long text \"#s}", ",t=s#s#s#s",
    };

    private final Random random;
    private final CiteForge x;
    private int calls;

    private FaceTest(long seed) {
        random = new Random(seed);
        x = new CiteForge();
    }

    public static void main(String[] args) {
        face();
        constants();
        for (int seed = 0; seed < 1000; seed++) {
            anyCalls(seed);
        }
        Checks.end();
    }

    private static void face() {
        List<String> found = new ArrayList<>();
        for (Constructor<?> each : CiteForge.class.getDeclaredConstructors()) {
            found.add(told("CiteForge", each));
        }
        for (Method each : CiteForge.class.getDeclaredMethods()) {
            if (!Modifier.isPrivate(each.getModifiers())) {
                found.add(told(each.getReturnType() + " " + each.getName(), each));
            }
        }
        Collections.sort(found);
        Checks.due("the face", Arrays.asList(FACE), found);
    }

    private static String told(String name, Executable each) {
        List<String> parameters = new ArrayList<>();
        for (Class<?> type : each.getParameterTypes()) {
            parameters.add(type.getSimpleName());
        }
        List<String> thrown = new ArrayList<>();
        for (Class<?> type : each.getExceptionTypes()) {
            thrown.add(" " + type.getSimpleName());
        }
        Collections.sort(thrown);
        return name + "(" + String.join(", ", parameters) + ")" + String.join("", thrown);
    }

    private static void constants() {
        int seen = 0;
        for (Field each : CiteForge.class.getDeclaredFields()) {
            seen += Modifier.isPrivate(each.getModifiers()) ? 0 : 1;
        }
        Checks.due("constants", 3, seen);
        Checks.due("NUMBER", 0, CiteForge.NUMBER);
        Checks.due("TEXT", 1, CiteForge.TEXT);
        Checks.due("MISSING", 2, CiteForge.MISSING);
    }

    private static void anyCalls(int seed) {
        FaceTest test = new FaceTest(seed);
        List<Method> methods = test.faceMethods();
        while (test.calls < 500) {
            if (test.random.nextInt(12) == 0) {
                test.fillFunction();
            } else if (test.random.nextInt(6) == 0) {
                test.writePart();
            } else {
                test.anyCall(methods.get(test.random.nextInt(methods.size())));
            }
        }
    }

    /** In an order of their own, as the order that Java tells them in is free. */
    private List<Method> faceMethods() {
        List<Method> methods = new ArrayList<>();
        for (Method each : CiteForge.class.getDeclaredMethods()) {
            if (Modifier.isPublic(each.getModifiers())) {
                methods.add(each);
            }
        }
        methods.sort((a, b) -> a.getName().compareTo(b.getName()));
        return methods;
    }

    private void fillFunction() {
        int function = random.nextInt(6);
        for (int i = random.nextInt(8); i > 0; i--) {
            call(method("define", int.class, int.class, long.class), function, random.nextInt(30), anyLong());
        }
        call(method("run", int.class, int.class), function, random.nextInt(3));
    }

    private void writePart() {
        String part = PARTS[random.nextInt(PARTS.length)];
        for (int i = 0; i < part.length(); i += 8) {
            String eight = part.substring(i, Math.min(i + 8, part.length()));
            call(method("write", long.class, int.class), Checks.bytes(eight), eight.length());
        }
        if (random.nextInt(3) == 0) {
            call(method("read"));
        }
    }

    private static Method method(String name, Class<?>... types) {
        try {
            return CiteForge.class.getMethod(name, types);
        } catch (NoSuchMethodException e) {
            throw new IllegalStateException(e);
        }
    }

    private void anyCall(Method method) {
        Class<?>[] types = method.getParameterTypes();
        Object[] arguments = new Object[types.length];
        for (int i = 0; i < types.length; i++) {
            if (types[i] == long.class) {
                arguments[i] = anyLong();
            } else {
                arguments[i] = anyInt();
            }
        }
        call(method, arguments);
    }

    private int anyInt() {
        switch (random.nextInt(8)) {
            case 0:
                return random.nextInt();
            case 1:
                return random.nextBoolean() ? Integer.MAX_VALUE : Integer.MIN_VALUE;
            case 2:
                return random.nextInt(70) - 5;
            default:
                return random.nextInt(8);
        }
    }

    private long anyLong() {
        switch (random.nextInt(8)) {
            case 0:
                return random.nextLong();
            case 1:
                return random.nextBoolean() ? Long.MAX_VALUE : Long.MIN_VALUE;
            case 2:
            case 3:
                return random.nextInt(60) - 8;
            default:
                String part = PARTS[random.nextInt(PARTS.length)];
                return Checks.bytes(part.substring(0, Math.min(8, part.length())));
        }
    }

    private void call(Method method, Object... arguments) {
        calls++;
        try {
            method.invoke(x, arguments);
        } catch (InvocationTargetException e) {
            boolean promised = Arrays.asList(method.getExceptionTypes()).contains(e.getCause().getClass());
            boolean written = e.getCause().getStackTrace()[0].getMethodName().equals(method.getName());
            Checks.due(method.getName() + Arrays.toString(arguments) + " threw " + e.getCause(), true, promised && written);
        } catch (IllegalAccessException e) {
            throw new IllegalStateException(e);
        }
    }
}
