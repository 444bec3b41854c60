import java.lang.reflect.Constructor;
import java.lang.reflect.Field;
import java.lang.reflect.Method;
import java.lang.reflect.Modifier;
import java.util.Arrays;
import java.util.List;
import java.util.Set;
import java.util.TreeSet;
import java.util.stream.Collectors;

/** The face is the document's and nothing else; the classes inside keep to rules 1, 5 and 11. */
public final class FaceTest {

    private static final String INDEX = "IndexOutOfBoundsException";
    private static final String ARGUMENT = "IllegalArgumentException";
    private static final String STATE = "IllegalStateException";

    private static final List<String> METHODS = List.of(
            "int append(int,int,int,int,int)",
            "int parse(int) " + ARGUMENT,
            "int size(int) " + ARGUMENT,
            "int rate(int) " + INDEX,
            "int currencyOf(int) " + INDEX,
            "int product(int,int) " + INDEX + "," + ARGUMENT,
            "int item(int,int) " + INDEX + "," + ARGUMENT,
            "long amount(int) " + INDEX,
            "long value(int) " + INDEX,
            "long currencyDifference(int) " + INDEX,
            "long pairDifference(int) " + INDEX + "," + STATE,
            "int candidates(int) " + INDEX,
            "int wouldPair(int) " + INDEX + "," + STATE,
            "long toleranceNeeded()",
            "float matchRate()",
            "long balance(int,int) " + INDEX,
            "long total(int) " + ARGUMENT,
            "long position(int) " + INDEX,
            "long settledPosition(int) " + INDEX,
            "int directPayments()",
            "int fewestPayments()",
            "int stock(int,int) " + INDEX,
            "int oldestPrice(int,int) " + INDEX,
            "long unrealized(int) " + INDEX,
            "long unrealizedAfterSale(int,int,int) " + INDEX + "," + ARGUMENT + "," + STATE,
            "float averageMargin(int) " + INDEX,
            "long gap(int) " + INDEX,
            "long gapsOf(int) " + INDEX,
            "int book(int,int,int,int,int) " + INDEX + "," + ARGUMENT + "," + STATE,
            "long cancel(int) " + INDEX + "," + STATE,
            "int match()",
            "int release(int) " + INDEX + "," + STATE,
            "long accept(int) " + INDEX + "," + STATE,
            "int setRate(int,int) " + INDEX + "," + ARGUMENT,
            "int setTolerance(int) " + ARGUMENT,
            "int net() " + STATE,
            "int deliver(int,int,int,int,int) " + INDEX + "," + ARGUMENT + "," + STATE,
            "long sell(int,int,int,int) " + INDEX + "," + ARGUMENT + "," + STATE,
            "int undo()",
            "boolean saveSnapshot(int)",
            "boolean restoreSnapshot(int)");

    private static String names(Class<?>[] types) {
        return Arrays.stream(types).map(Class::getSimpleName).collect(Collectors.joining(","));
    }

    private static String told(Method method) {
        String text = method.getReturnType().getSimpleName() + " " + method.getName()
                + "(" + names(method.getParameterTypes()) + ") " + names(method.getExceptionTypes());
        return text.trim();
    }

    private static void face() {
        Class<?> type = IntercompanyLedger.class;
        Check.same("public", Modifier.isPublic(type.getModifiers()), true);
        Check.same("final", Modifier.isFinal(type.getModifiers()), true);
        Set<String> seen = new TreeSet<>();
        for (Method method : type.getDeclaredMethods()) {
            if (!Modifier.isPrivate(method.getModifiers())) {
                seen.add(told(method));
                Check.same(told(method) + " is public", Modifier.isPublic(method.getModifiers()), true);
                Check.same(told(method) + " is static", Modifier.isStatic(method.getModifiers()), false);
            }
        }
        Check.sameText("methods", seen.toString(), new TreeSet<>(METHODS).toString());
        Constructor<?>[] constructors = type.getDeclaredConstructors();
        Check.same("constructors", constructors.length, 1);
        Check.same("its parameters", constructors[0].getParameterCount(), 0);
        Check.same("it is public", Modifier.isPublic(constructors[0].getModifiers()), true);
        for (Field field : type.getDeclaredFields()) {
            Check.same(field.getName() + " is private", Modifier.isPrivate(field.getModifiers()), !field.getName().equals("NONE"));
        }
    }

    private static void inside() {
        Set<String> publicNames = METHODS.stream()
                .map(m -> m.substring(m.indexOf(' ') + 1, m.indexOf('('))).collect(Collectors.toSet());
        Class<?>[] classes = IntercompanyLedger.class.getDeclaredClasses();
        Check.same("at most twelve classes", classes.length <= 11, true);
        for (Class<?> type : classes) {
            Check.same(type + " is static", Modifier.isStatic(type.getModifiers()), true);
            Check.same(type + " is private or package-visible", (type.getModifiers() & (Modifier.PUBLIC | Modifier.PROTECTED)) != 0, false);
            rules(type, publicNames);
        }
        for (Method method : IntercompanyLedger.class.getDeclaredMethods()) {
            if (Modifier.isPrivate(method.getModifiers())) {
                Check.same(method + " has its own name", publicNames.contains(method.getName()), false);
            }
        }
    }

    private static void rules(Class<?> type, Set<String> publicNames) {
        long fields = Arrays.stream(type.getDeclaredFields()).filter(f -> !Modifier.isStatic(f.getModifiers())).count();
        Check.same(type + " has at most twenty fields", fields <= 20, true);
        for (Field field : type.getDeclaredFields()) {
            if (Modifier.isStatic(field.getModifiers())) {
                Check.same(field + " is final", Modifier.isFinal(field.getModifiers()), true);
            }
        }
        for (Method method : type.getDeclaredMethods()) {
            Check.same(method + " has its own name", publicNames.contains(method.getName()), false);
            Check.same(method + " has at most seven parameters", method.getParameterCount() <= 7, true);
        }
    }

    public static void main(String[] args) {
        face();
        inside();
        Check.same("NONE", IntercompanyLedger.NONE, -1);
        Check.end();
    }
}
