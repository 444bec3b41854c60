import java.lang.reflect.Method;
import java.nio.charset.StandardCharsets;
import java.util.function.Supplier;

/** Every method of the face with every argument at and beside the document's limits, on ledgers from new to full. */
public final class ArgumentsTest {

    private static final int[] EDGES = {Integer.MIN_VALUE, -1000, -1, 0, 1, 2, 3, 4, 5, 6, 7, 8, 9, 10, 99, 100, 101, 999, 1000,
        9999, 10000, 99999, 100000, 1000000, 1000001, Integer.MAX_VALUE};

    private static final String SIX = "currency 100;currency 50;currency 9999;currency 1;company 0;company 1;company 2;company 3;"
            + "company 0;company 1;product 0 100 10 30;product 1 7 0 0;product 2 9999 99 999;product 3 1 0 0;product 4 50 0 9;"
            + "product 5 1 99 99;tolerance 20;center 5;fee 7;";

    private ArgumentsTest() {
    }

    private static SideBySide of(String text) {
        SideBySide both = new SideBySide();
        both.append(text.getBytes(StandardCharsets.ISO_8859_1));
        both.call("parse", text.length());
        return both;
    }

    private static SideBySide busy() {
        SideBySide both = of(Ledgers.THREE);
        both.call("book", 0, 1, 0, 5, 1000);
        both.call("book", 1, 0, 1, 5, 1990);
        both.call("match");
        both.call("net");
        both.call("saveSnapshot", 0);
        both.call("book", 0, 1, 0, 6, 1000);
        both.call("book", 1, 0, 1, 6, 1980);
        both.call("book", 2, 1, 0, 9, 500);
        both.call("book", 1, 2, 1, 9, 900);
        both.call("match");
        both.call("book", 0, 2, 0, 1, 10);
        both.call("book", 2, 0, 1, 1, 12);
        both.call("book", 0, 2, 0, 3, 44);
        both.call("cancel", 8);
        both.call("deliver", 0, 0, 1, 999, 125);
        both.call("deliver", 0, 1, 2, 99, 150);
        return both;
    }

    private static SideBySide full() {
        SideBySide both = of(SIX);
        for (int row = 0; row < 100; row++) {
            both.call("book", row % 2, 1 - row % 2, row % 2, row / 2 % 7, 1000 + 29 * (row % 2 == 0 ? row : 0));
            both.call("deliver", row % 6, row % 6, (row + 1) % 6, 999, 1 + row * 997);
        }
        both.call("match");
        return both;
    }

    /** Calls with arguments; a change is undone, so that the next call finds the ledger as this one did. */
    private static void tryOnce(SideBySide both, String name, int... arguments) {
        Object[] boxed = new Object[arguments.length];
        for (int place = 0; place < arguments.length; place++) {
            boxed[place] = arguments[place];
        }
        String answer = both.call(name, boxed);
        boolean change = ReferenceLedger.CHANGES.contains(name);
        if (change && !answer.startsWith("throws.")) {
            both.call("undo");
        }
    }

    /** Puts every edge at one place, and every other edge at another one; the rest means something. */
    private static void tryEdges(SideBySide both, String name, int... good) {
        if (good.length == 0) {
            tryOnce(both, name);
        }
        for (int one = 0; one < good.length; one++) {
            for (int other = one; other < good.length; other++) {
                for (int edge : EDGES) {
                    for (int otherEdge : EDGES) {
                        int[] arguments = good.clone();
                        arguments[one] = edge;
                        arguments[other] = otherEdge;
                        tryOnce(both, name, arguments);
                    }
                }
            }
        }
    }

    private static int[] goodArguments(Method method) {
        return switch (method.getName()) {
            case "book" -> new int[] {0, 1, 0, 5, 1000};
            case "deliver" -> new int[] {0, 1, 2, 1, 100};
            case "sell" -> new int[] {1, 0, 1, 100};
            case "unrealizedAfterSale" -> new int[] {1, 0, 1};
            default -> new int[method.getParameterCount()];
        };
    }

    private static void questionsAndChanges(Supplier<SideBySide> ledgers) {
        SideBySide both = ledgers.get();
        for (Method method : SideBySide.FACE) {
            boolean apart = method.getName().equals("parse") || method.getName().equals("restoreSnapshot");
            if (!apart) {
                tryEdges(both, method.getName(), goodArguments(method));
            }
        }
        tryEdges(both, "restoreSnapshot", 0);
    }

    /** A parse that succeeds leaves nothing to try again on, so each has a ledger of its own. */
    private static void parses(Supplier<SideBySide> ledgers) {
        for (int length : new int[] {Integer.MIN_VALUE, -1, 0, 1, 19, 20, 21, 22, 39, 40, 41, 600, 601, Integer.MAX_VALUE}) {
            SideBySide both = ledgers.get();
            both.append("currency 7;company 0;".getBytes(StandardCharsets.ISO_8859_1));
            both.call("parse", length);
            for (int what = 0; what <= 4; what++) {
                both.call("size", what);
            }
            both.call("undo");
            both.call("append", 0, 0, 0, 0, 0);
        }
    }

    public static void main(String[] args) {
        questionsAndChanges(SideBySide::new);
        questionsAndChanges(() -> of(Ledgers.THREE));
        questionsAndChanges(() -> of(SIX));
        questionsAndChanges(ArgumentsTest::busy);
        questionsAndChanges(ArgumentsTest::full);
        parses(SideBySide::new);
        parses(ArgumentsTest::busy);
        parses(ArgumentsTest::full);
        Check.end();
    }
}
