import java.lang.reflect.InvocationTargetException;
import java.lang.reflect.Method;
import java.lang.reflect.Modifier;
import java.util.Arrays;
import java.util.Comparator;

/** The program and ReferenceLedger, which get the same calls: each answer of the one must be that of the other. */
final class SideBySide {

    static final Method[] FACE = face();

    final ReferenceLedger reference = new ReferenceLedger();
    private final IntercompanyLedger program = new IntercompanyLedger();
    private final StringBuilder run = new StringBuilder();
    private boolean apart = false;
    private int calls = 0;

    private static Method[] face() {
        Method[] methods = Arrays.stream(IntercompanyLedger.class.getDeclaredMethods())
                .filter(m -> Modifier.isPublic(m.getModifiers())).toArray(Method[]::new);
        // The machine lists methods in no fixed order, but the runs shall be the same each time.
        Arrays.sort(methods, Comparator.comparing(Method::getName));
        return methods;
    }

    private static Method named(String name) {
        for (Method method : FACE) {
            if (method.getName().equals(name)) {
                return method;
            }
        }
        throw new AssertionError(name);
    }

    static int parameters(String name) {
        return named(name).getParameterCount();
    }

    private static String answer(Method method, Object object, Object[] arguments) {
        try {
            return String.valueOf(method.invoke(object, arguments));
        } catch (InvocationTargetException e) {
            return "throws." + e.getCause().getClass().getName();
        } catch (IllegalAccessException e) {
            throw new AssertionError(e);
        }
    }

    /** Answers what the program answered; after the first difference nothing is called any more. */
    String call(String name, Object... arguments) {
        if (apart) {
            return "";
        }
        calls++;
        try {
            Method method = named(name);
            Method mirror = ReferenceLedger.class.getDeclaredMethod(name, method.getParameterTypes());
            String got = answer(method, program, arguments);
            String due = answer(mirror, reference, arguments);
            String told = name + Arrays.toString(arguments);
            run.append(told).append(" -> ").append(due).append('\n');
            Check.sameText(told, got, due);
            if (!got.equals(due)) {
                apart = true;
                System.out.println(run);
            }
            return got;
        } catch (NoSuchMethodException e) {
            throw new AssertionError(e);
        }
    }

    void append(byte[] bytes) {
        for (int at = 0; at < bytes.length; at += 20) {
            call("append", Ledgers.word(bytes, at), Ledgers.word(bytes, at + 4), Ledgers.word(bytes, at + 8),
                    Ledgers.word(bytes, at + 12), Ledgers.word(bytes, at + 16));
        }
    }

    int calls() {
        return calls;
    }

    boolean isApart() {
        return apart;
    }
}
