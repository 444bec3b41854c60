import java.util.Random;

/** Runs of 512 calls with a fixed seed: the program must answer as ReferenceLedger does. */
public final class RandomRunsTest {

    private static final int RUNS = 1500;
    private static final int CALLS = 512;

    private static final String[] WORDS = {"currency", "company", "product", "tolerance", "center", "fee"};

    private final Random random;
    private final SideBySide both = new SideBySide();

    private RandomRunsTest(long seed) {
        random = new Random(seed);
    }

    private void call(String name, Object... arguments) {
        if (both.calls() < CALLS) {
            both.call(name, arguments);
        }
    }

    private String goodText() {
        StringBuilder text = new StringBuilder();
        int currencies = 1 + random.nextInt(4);
        for (int i = 0; i < currencies; i++) {
            text.append("currency ").append(random.nextInt(4) == 0 ? 1 + random.nextInt(9999) : 80 + random.nextInt(40)).append(';');
        }
        int companies = 2 + random.nextInt(5);
        for (int i = 0; i < companies; i++) {
            text.append("company ").append(random.nextInt(currencies)).append(';');
        }
        for (int i = random.nextInt(7); i > 0; i--) {
            int low = random.nextInt(100);
            text.append("product ").append(random.nextInt(companies)).append(' ').append(1 + random.nextInt(200));
            text.append(' ').append(low).append(' ').append(low + random.nextInt(60)).append(';');
        }
        if (random.nextInt(4) != 0) {
            text.append("tolerance ").append(random.nextInt(80)).append(";\n");
        }
        if (random.nextBoolean()) {
            text.append("center ").append(random.nextInt(companies)).append(';');
        }
        if (random.nextBoolean()) {
            text.append(" fee ").append(random.nextInt(50)).append(';');
        }
        return text.toString();
    }

    private String oddText() {
        StringBuilder text = new StringBuilder();
        int statements = random.nextInt(26);
        for (int i = 0; i < statements; i++) {
            int word = random.nextInt(random.nextInt(3) == 0 ? 6 : 3);
            text.append(WORDS[word]);
            for (int left = word == 2 ? 4 : 1; left > 0; left--) {
                boolean positive = word == 0 || word == 2 && left != 4 && left != 2;
                text.append(random.nextInt(8) == 0 ? "\n" : " ");
                text.append(random.nextInt(40) == 0 ? random.nextInt(20000) : random.nextInt(2) + (positive ? 1 : 0));
            }
            text.append(random.nextInt(10) == 0 ? " ;" : ";");
        }
        for (int i = random.nextInt(3); i > 0 && text.length() > 0; i--) {
            int at = random.nextInt(text.length());
            switch (random.nextInt(4)) {
                case 0 -> text.deleteCharAt(at);
                case 1 -> text.setCharAt(at, (char) random.nextInt(256));
                case 2 -> text.insert(at, ' ');
                default -> text.setCharAt(at, " ;0a9z\n".charAt(random.nextInt(7)));
            }
        }
        return text.toString();
    }

    private void text(String text) {
        byte[] bytes = text.getBytes(java.nio.charset.StandardCharsets.ISO_8859_1);
        if (both.calls() + bytes.length / 20 + 2 > CALLS) {
            return;
        }
        both.append(bytes);
        call("parse", random.nextInt(30) == 0 ? random.nextInt(700) - 10 : Math.min(bytes.length, 600));
    }

    /** Arguments that mostly mean something, with the edges among them. */
    private int argument(String name, int place) {
        if (random.nextInt(150) == 0) {
            int[] edges = {-1, 0, 1, 2, 4, 5, 6, 7, 8, 99, 100, 999, 1000, 9999, 10000, 99999, 100000, 1000000, 1000001,
                Integer.MAX_VALUE, Integer.MIN_VALUE};
            return edges[random.nextInt(edges.length)];
        }
        int companies = Math.max(1, both.reference.size(1));
        int products = Math.max(1, both.reference.size(2));
        int items = Math.max(1, both.reference.size(3));
        int deliveries = Math.max(1, both.reference.size(4));
        return switch (name) {
            case "size" -> random.nextInt(5);
            case "total" -> random.nextInt(8);
            case "rate" -> random.nextInt(4);
            case "currencyOf", "position", "settledPosition", "unrealized", "averageMargin", "gapsOf", "balance" -> random.nextInt(companies);
            case "product" -> place == 0 ? random.nextInt(products) : random.nextInt(4);
            case "item" -> place == 0 ? random.nextInt(items) : random.nextInt(6);
            case "gap" -> random.nextInt(deliveries);
            case "stock", "oldestPrice" -> random.nextInt(place == 0 ? companies : products);
            case "unrealizedAfterSale" -> place == 0 ? random.nextInt(companies) : place == 1 ? random.nextInt(products) : random.nextInt(40);
            case "book" -> place <= 1 ? random.nextInt(Math.min(companies, 4)) : place == 2 ? random.nextInt(2)
                    : place == 3 ? random.nextInt(2) : random.nextInt(5) == 0 ? 1 + random.nextInt(1000000) : 1 + random.nextInt(300);
            case "deliver" -> place == 0 ? random.nextInt(products) : place <= 2 ? random.nextInt(companies)
                    : place == 3 ? 1 + random.nextInt(30) : 1 + random.nextInt(400);
            case "sell" -> place == 0 ? random.nextInt(companies) : place == 1 ? random.nextInt(products)
                    : place == 2 ? 1 + random.nextInt(20) : 1 + random.nextInt(400);
            case "setRate" -> place == 0 ? random.nextInt(Math.max(1, both.reference.size(0)))
                    : random.nextInt(6) == 0 ? 1 + random.nextInt(9999) : 80 + random.nextInt(40);
            case "setTolerance" -> random.nextInt(200);
            case "saveSnapshot", "restoreSnapshot" -> random.nextInt(2);
            default -> random.nextInt(items);
        };
    }

    private void step(int changesOfTen) {
        String[] changes = {"book", "book", "book", "book", "book", "deliver", "deliver", "deliver", "sell", "cancel",
            "match", "release", "accept", "setRate", "setTolerance", "net", "undo"};
        String name = random.nextInt(10) < changesOfTen ? changes[random.nextInt(changes.length)]
                : SideBySide.FACE[random.nextInt(SideBySide.FACE.length)].getName();
        if (name.equals("append") || name.equals("parse")) {
            if (random.nextInt(8) == 0) {
                text(random.nextInt(6) == 0 ? goodText() : oddText());
            }
            return;
        }
        if (name.equals("restoreSnapshot") && random.nextInt(3) != 0) {
            return;
        }
        Object[] arguments = new Object[SideBySide.parameters(name)];
        for (int place = 0; place < arguments.length; place++) {
            arguments[place] = argument(name, place);
        }
        call(name, arguments);
    }

    private void go() {
        text(random.nextInt(10) == 0 ? oddText() : goodText());
        int changesOfTen = random.nextInt(10);
        for (int i = 0; i < 4 * CALLS && both.calls() < CALLS && !both.isApart(); i++) {
            step(changesOfTen);
        }
    }

    private static void texts() {
        for (int i = 0; i < 20000; i++) {
            RandomRunsTest test = new RandomRunsTest(1000000L + i);
            test.text(test.oddText());
            test.call("size", 2);
        }
    }

    public static void main(String[] args) {
        for (int i = 0; i < RUNS; i++) {
            new RandomRunsTest(i).go();
        }
        texts();
        Check.end();
    }
}
