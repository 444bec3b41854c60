import java.util.ArrayDeque;
import java.util.ArrayList;
import java.util.Arrays;
import java.util.Deque;
import java.util.List;
import java.util.Set;
import java.util.regex.Matcher;
import java.util.regex.Pattern;

/**
 * The document once more, written for plainness alone: whole states are copied for each change,
 * lots are a list of their own, and payments are searched over all partitions. RandomRunsTest holds
 * the program against it.
 */
final class ReferenceLedger {

    /** The methods from book to sell. */
    static final Set<String> CHANGES = Set.of("book", "cancel", "match", "release", "accept", "setRate", "setTolerance",
            "net", "deliver", "sell");

    private static final class Item {
        int company;
        int partner;
        int side;
        int reference;
        int state;
        int pair = -1;
        long amount;
        long booked;
        long frozen;

        Item copy() {
            Item other = new Item();
            other.company = company;
            other.partner = partner;
            other.side = side;
            other.reference = reference;
            other.state = state;
            other.pair = pair;
            other.amount = amount;
            other.booked = booked;
            other.frozen = frozen;
            return other;
        }
    }

    private record Delivery(int product, int from, int to, int quantity, int price) {
    }

    private record Lot(int company, int product, int quantity, int price) {
    }

    private record Product(int maker, int cost, int lower, int upper) {
    }

    private static final class State {
        List<Integer> rates = new ArrayList<>();
        int tolerance;
        List<Item> items = new ArrayList<>();
        List<Delivery> deliveries = new ArrayList<>();
        List<Lot> lots = new ArrayList<>();
        long rounding;
        long fees;
        long realized;
        long[] settled = new long[6];

        State copy() {
            State other = new State();
            other.rates.addAll(rates);
            other.tolerance = tolerance;
            for (Item item : items) {
                other.items.add(item.copy());
            }
            other.deliveries.addAll(deliveries);
            other.lots.addAll(lots);
            other.rounding = rounding;
            other.fees = fees;
            other.realized = realized;
            other.settled = settled.clone();
            return other;
        }
    }

    private static final class Wrong extends Exception {
        private static final long serialVersionUID = 1L;
        final int code;

        Wrong(int offset, int kind) {
            super("");
            code = -2 - (8 * offset + kind);
        }
    }

    private static final Pattern TOKEN = Pattern.compile("[a-z]+|[0-9]+|[^ \n]", Pattern.DOTALL);

    private StringBuilder buffer = new StringBuilder();
    private List<Integer> companies = new ArrayList<>();
    private List<Product> products = new ArrayList<>();
    private int center;
    private int fee;
    private State state = new State();
    private final Deque<State> past = new ArrayDeque<>();
    private final State[] slots = new State[2];

    int append(int a, int b, int c, int d, int e) {
        if (buffer.length() + 20 > 600) {
            return -1;
        }
        for (int word : new int[] {a, b, c, d, e}) {
            buffer.append((char) (word >>> 24)).append((char) (word >>> 16 & 255));
            buffer.append((char) (word >>> 8 & 255)).append((char) (word & 255));
        }
        return buffer.length();
    }

    int parse(int length) {
        require(length >= 0 && length <= buffer.length());
        String text = buffer.substring(0, length);
        buffer = new StringBuilder();
        List<String> tokens = new ArrayList<>();
        List<Integer> offsets = new ArrayList<>();
        Matcher matcher = TOKEN.matcher(text);
        while (matcher.find()) {
            tokens.add(matcher.group());
            offsets.add(matcher.start());
        }
        tokens.add("");
        offsets.add(length);
        ReferenceLedger fresh = new ReferenceLedger();
        try {
            fresh.read(tokens, offsets);
        } catch (Wrong wrong) {
            return wrong.code;
        }
        companies = fresh.companies;
        products = fresh.products;
        center = fresh.center;
        fee = fresh.fee;
        state = fresh.state;
        past.clear();
        Arrays.fill(slots, null);
        return companies.size();
    }

    private void read(List<String> tokens, List<Integer> offsets) throws Wrong {
        List<String> once = new ArrayList<>();
        for (int at = 0; at < tokens.size() - 1;) {
            String word = tokens.get(at);
            int numbers = switch (word) {
                case "currency", "company", "tolerance", "center", "fee" -> 1;
                case "product" -> 4;
                default -> throw new Wrong(offsets.get(at), 1);
            };
            boolean full = switch (word) {
                case "currency" -> state.rates.size() == 4;
                case "company" -> companies.size() == 6;
                case "product" -> products.size() == 6;
                default -> false;
            };
            if (once.contains(word)) {
                throw new Wrong(offsets.get(at), 2);
            }
            if (full) {
                throw new Wrong(offsets.get(at), 4);
            }
            at++;
            int[] read = new int[numbers];
            for (int i = 0; i < numbers; i++, at++) {
                if (!tokens.get(at).matches("[0-9]{1,4}")) {
                    throw new Wrong(offsets.get(at), 1);
                }
                read[i] = Integer.parseInt(tokens.get(at));
                int[] range = range(word, i, read);
                if (read[i] < range[0] || read[i] > range[1]) {
                    throw new Wrong(offsets.get(at), 3);
                }
            }
            if (!tokens.get(at).equals(";")) {
                throw new Wrong(offsets.get(at), 1);
            }
            at++;
            declare(word, read);
            if (!List.of("currency", "company", "product").contains(word)) {
                once.add(word);
            }
        }
    }

    private int[] range(String word, int place, int[] read) {
        return switch (word) {
            case "currency" -> new int[] {1, 9999};
            case "company" -> new int[] {0, state.rates.size() - 1};
            case "center" -> new int[] {0, companies.size() - 1};
            case "product" -> switch (place) {
                case 0 -> new int[] {0, companies.size() - 1};
                case 1 -> new int[] {1, 9999};
                case 2 -> new int[] {0, 99};
                default -> new int[] {read[2], 999};
            };
            default -> new int[] {0, 9999};
        };
    }

    private void declare(String word, int[] read) {
        switch (word) {
            case "currency" -> state.rates.add(read[0]);
            case "company" -> companies.add(read[0]);
            case "center" -> center = read[0];
            case "fee" -> fee = read[0];
            case "tolerance" -> state.tolerance = read[0];
            default -> products.add(new Product(read[0], read[1],
                    read[1] + read[1] * read[2] / 100, read[1] + read[1] * read[3] / 100));
        }
    }

    private static void require(boolean holds) {
        if (!holds) {
            throw new IllegalArgumentException();
        }
    }

    private static void exists(boolean holds) {
        if (!holds) {
            throw new IndexOutOfBoundsException();
        }
    }

    private static void allowed(boolean holds) {
        if (!holds) {
            throw new IllegalStateException();
        }
    }

    private void hasCompany(int company) {
        exists(company >= 0 && company < companies.size());
    }

    private void hasProduct(int product) {
        exists(product >= 0 && product < products.size());
    }

    private Item has(int item) {
        exists(item >= 0 && item < state.items.size());
        return state.items.get(item);
    }

    private void change() {
        past.push(state.copy());
        if (past.size() > 10) {
            past.removeLast();
        }
    }

    private long worth(Item item) {
        return switch (item.state) {
            case 3 -> item.frozen;
            case 4 -> 0;
            default -> item.amount * state.rates.get(companies.get(item.company)) / 100;
        };
    }

    int size(int what) {
        require(what >= 0 && what <= 4);
        return List.of(state.rates.size(), companies.size(), products.size(),
                state.items.size(), state.deliveries.size()).get(what);
    }

    int rate(int currency) {
        exists(currency >= 0 && currency < state.rates.size());
        return state.rates.get(currency);
    }

    int currencyOf(int company) {
        hasCompany(company);
        return companies.get(company);
    }

    int product(int product, int what) {
        hasProduct(product);
        require(what >= 0 && what <= 3);
        Product p = products.get(product);
        return List.of(p.maker, p.cost, p.lower, p.upper).get(what);
    }

    int item(int item, int what) {
        Item it = has(item);
        require(what >= 0 && what <= 5);
        return List.of(it.company, it.partner, it.side, it.reference, it.state, it.pair).get(what);
    }

    long amount(int item) {
        return has(item).amount;
    }

    long value(int item) {
        return worth(has(item));
    }

    long currencyDifference(int item) {
        Item it = has(item);
        return it.state == 4 ? 0 : worth(it) - it.booked;
    }

    long pairDifference(int item) {
        Item it = has(item);
        allowed(it.pair >= 0);
        Item other = state.items.get(it.pair);
        return it.side == 0 ? worth(it) - worth(other) : worth(other) - worth(it);
    }

    private static boolean mirror(Item payable, Item receivable) {
        return payable.side == 1 && receivable.side == 0 && payable.company == receivable.partner
                && payable.partner == receivable.company && payable.reference == receivable.reference;
    }

    int candidates(int item) {
        Item it = has(item);
        return (int) state.items.stream().filter(o -> o.state == 0 && (mirror(o, it) || mirror(it, o))).count();
    }

    /** Makes a match run on the present state and answers the pairs as {receivable, payable}. */
    private List<int[]> run() {
        List<int[]> pairs = new ArrayList<>();
        for (int r = 0; r < state.items.size(); r++) {
            Item receivable = state.items.get(r);
            if (receivable.side != 0 || receivable.state != 0) {
                continue;
            }
            int best = -1;
            for (int p = state.items.size() - 1; p >= 0; p--) {
                Item payable = state.items.get(p);
                if (payable.state == 0 && mirror(payable, receivable) && (best < 0
                        || Math.abs(worth(payable) - worth(receivable))
                        <= Math.abs(worth(state.items.get(best)) - worth(receivable)))) {
                    best = p;
                }
            }
            if (best >= 0) {
                Item payable = state.items.get(best);
                boolean agreed = Math.abs(worth(payable) - worth(receivable)) <= state.tolerance;
                payable.state = agreed ? 1 : 2;
                receivable.state = agreed ? 1 : 2;
                payable.pair = r;
                receivable.pair = best;
                pairs.add(new int[] {r, best});
            }
        }
        return pairs;
    }

    /** A run whose effect is thrown away. */
    private List<int[]> trial() {
        State kept = state;
        state = state.copy();
        List<int[]> pairs = run();
        state = kept;
        return pairs;
    }

    int wouldPair(int item) {
        Item it = has(item);
        allowed(it.side == 0 && it.state == 0);
        for (int[] pair : trial()) {
            if (pair[0] == item) {
                return pair[1];
            }
        }
        return -1;
    }

    long toleranceNeeded() {
        long needed = -1;
        for (int[] pair : trial()) {
            needed = Math.max(needed, Math.abs(value(pair[0]) - value(pair[1])));
        }
        return needed;
    }

    float matchRate() {
        int agreed = 0;
        int all = 0;
        for (Item it : state.items) {
            if (it.side == 0 && it.pair >= 0) {
                all++;
                agreed += it.state == 2 ? 0 : 1;
            }
        }
        return all == 0 ? 0.0f : (float) agreed / (float) all;
    }

    long balance(int company, int partner) {
        hasCompany(company);
        hasCompany(partner);
        long sum = 0;
        for (Item it : state.items) {
            if (it.state <= 2 && it.side == 0 && it.company == company && it.partner == partner) {
                sum += worth(it);
            }
            if (it.state <= 2 && it.side == 1 && it.company == partner && it.partner == company) {
                sum -= worth(it);
            }
        }
        return company == partner ? 0 : sum;
    }

    long total(int what) {
        require(what >= 0 && what <= 7);
        if (what >= 4) {
            long unrealized = state.lots.stream().mapToLong(this::profit).sum();
            return List.of(state.rounding, state.fees, state.realized, unrealized).get(what - 4);
        }
        long sum = 0;
        for (Item it : state.items) {
            if (what == 0 ? it.state <= 2 : it.state == what - 1) {
                sum += it.side == 0 ? worth(it) : -worth(it);
            }
        }
        return sum;
    }

    long position(int company) {
        hasCompany(company);
        long sum = 0;
        for (Item it : state.items) {
            if (it.state == 1 && it.company == company) {
                sum += it.side == 0 ? worth(it) : -worth(state.items.get(it.pair));
            }
        }
        return sum;
    }

    long settledPosition(int company) {
        hasCompany(company);
        return state.settled[company];
    }

    int directPayments() {
        int number = 0;
        for (int a = 0; a < companies.size(); a++) {
            for (int b = 0; b < a; b++) {
                long sum = 0;
                for (Item it : state.items) {
                    if (it.state == 1 && it.side == 0 && it.company == a && it.partner == b) {
                        sum += worth(it);
                    }
                    if (it.state == 1 && it.side == 0 && it.company == b && it.partner == a) {
                        sum -= worth(it);
                    }
                }
                number += sum == 0 ? 0 : 1;
            }
        }
        return number;
    }

    int fewestPayments() {
        long[] positions = new long[companies.size()];
        for (int company = 0; company < positions.length; company++) {
            positions[company] = position(company);
        }
        return fewest(positions, 0);
    }

    /** The first company that owes or is owed must trade with one of the others: all are tried. */
    private static int fewest(long[] open, int at) {
        if (at == open.length) {
            return 0;
        }
        if (open[at] == 0) {
            return fewest(open, at + 1);
        }
        int best = Integer.MAX_VALUE;
        for (int other = at + 1; other < open.length; other++) {
            if (open[other] != 0 && (open[other] > 0) != (open[at] > 0)) {
                long kept = open[other];
                open[other] += open[at];
                best = Math.min(best, 1 + fewest(open, at + 1));
                open[other] = kept;
            }
        }
        return best;
    }

    private long profit(Lot lot) {
        return (long) lot.quantity * (lot.price - products.get(lot.product).cost);
    }

    private List<Lot> lotsOf(int company, int product) {
        return state.lots.stream().filter(l -> l.company == company && l.product == product).toList();
    }

    int stock(int company, int product) {
        hasCompany(company);
        hasProduct(product);
        return lotsOf(company, product).stream().mapToInt(Lot::quantity).sum();
    }

    int oldestPrice(int company, int product) {
        hasCompany(company);
        hasProduct(product);
        List<Lot> lots = lotsOf(company, product);
        return lots.isEmpty() ? -1 : lots.get(0).price;
    }

    long unrealized(int company) {
        hasCompany(company);
        return state.lots.stream().filter(l -> l.company == company).mapToLong(this::profit).sum();
    }

    private void take(int company, int product, int quantity) {
        if (products.get(product).maker == company) {
            return;
        }
        int missing = quantity;
        List<Lot> left = new ArrayList<>();
        for (Lot lot : state.lots) {
            if (lot.company == company && lot.product == product && missing > 0) {
                int taken = Math.min(missing, lot.quantity);
                missing -= taken;
                if (taken < lot.quantity) {
                    left.add(new Lot(company, product, lot.quantity - taken, lot.price));
                }
            } else {
                left.add(lot);
            }
        }
        state.lots = left;
    }

    private void hasPieces(int company, int product, int quantity) {
        allowed(products.get(product).maker == company || stock(company, product) >= quantity);
    }

    long unrealizedAfterSale(int company, int product, int quantity) {
        hasCompany(company);
        hasProduct(product);
        require(quantity >= 0 && quantity <= 9999);
        hasPieces(company, product, quantity);
        State kept = state;
        state = state.copy();
        take(company, product, quantity);
        long answer = unrealized(company);
        state = kept;
        return answer;
    }

    float averageMargin(int company) {
        hasCompany(company);
        long cost = 0;
        for (Lot lot : state.lots) {
            cost += lot.company == company ? (long) lot.quantity * products.get(lot.product).cost : 0;
        }
        return cost == 0 ? 0.0f : (float) unrealized(company) * 100.0f / (float) cost;
    }

    private long gapOf(Delivery d) {
        Product p = products.get(d.product);
        int nearest = Math.max(p.lower, Math.min(p.upper, d.price));
        return (long) d.quantity * (d.price - nearest);
    }

    long gap(int delivery) {
        exists(delivery >= 0 && delivery < state.deliveries.size());
        return gapOf(state.deliveries.get(delivery));
    }

    long gapsOf(int company) {
        hasCompany(company);
        return state.deliveries.stream().mapToLong(
                d -> d.from == company ? gapOf(d) : d.to == company ? -gapOf(d) : 0).sum();
    }

    int book(int company, int partner, int side, int reference, int amount) {
        hasCompany(company);
        hasCompany(partner);
        require(company != partner && (side == 0 || side == 1));
        require(reference >= 0 && reference <= 999 && amount >= 1 && amount <= 1000000);
        allowed(state.items.size() < 100);
        change();
        Item it = new Item();
        it.company = company;
        it.partner = partner;
        it.side = side;
        it.reference = reference;
        it.amount = amount;
        it.booked = worth(it);
        state.items.add(it);
        return state.items.size() - 1;
    }

    long cancel(int item) {
        allowed(has(item).state == 0);
        long before = value(item);
        change();
        has(item).state = 4;
        return before;
    }

    int match() {
        change();
        return run().size();
    }

    int release(int item) {
        allowed(has(item).state == 1 || has(item).state == 2);
        change();
        int other = has(item).pair;
        for (int each : new int[] {item, other}) {
            has(each).state = 0;
            has(each).pair = -1;
        }
        return other;
    }

    long accept(int item) {
        allowed(has(item).state == 2);
        Item other = has(has(item).pair);
        long amount = value(item) * 100 / state.rates.get(companies.get(other.company));
        allowed(amount >= 1 && amount <= 1000000000);
        change();
        has(item).state = 1;
        other = has(has(item).pair);
        other.state = 1;
        other.amount = amount;
        other.booked = worth(other);
        return amount;
    }

    int setRate(int currency, int rate) {
        exists(currency >= 0 && currency < state.rates.size());
        require(rate >= 1 && rate <= 9999);
        change();
        return state.rates.set(currency, rate);
    }

    int setTolerance(int value) {
        require(value >= 0 && value <= 1000000);
        change();
        int before = state.tolerance;
        state.tolerance = value;
        return before;
    }

    int net() {
        allowed(state.items.stream().anyMatch(it -> it.state == 1));
        change();
        int payments = 0;
        long[] positions = new long[6];
        for (int company = 0; company < companies.size(); company++) {
            positions[company] = position(company);
            payments += company != center && positions[company] != 0 ? 1 : 0;
        }
        state.settled = positions;
        for (int item = 0; item < state.items.size(); item++) {
            Item it = has(item);
            if (it.state == 1 && it.side == 0) {
                state.rounding += pairDifference(item);
                for (Item each : List.of(it, has(it.pair))) {
                    each.frozen = worth(each);
                    each.state = 3;
                }
            }
        }
        state.fees += (long) payments * fee;
        return payments;
    }

    int deliver(int product, int from, int to, int quantity, int price) {
        hasProduct(product);
        hasCompany(from);
        hasCompany(to);
        require(from != to && to != products.get(product).maker);
        require(quantity >= 1 && quantity <= 999 && price >= 1 && price <= 99999);
        hasPieces(from, product, quantity);
        allowed(state.deliveries.size() < 100);
        change();
        take(from, product, quantity);
        state.lots.add(new Lot(to, product, quantity, price));
        state.deliveries.add(new Delivery(product, from, to, quantity, price));
        return state.deliveries.size() - 1;
    }

    long sell(int company, int product, int quantity, int price) {
        hasCompany(company);
        hasProduct(product);
        require(quantity >= 1 && quantity <= 9999 && price >= 1 && price <= 99999);
        hasPieces(company, product, quantity);
        change();
        take(company, product, quantity);
        long realized = (long) quantity * (price - products.get(product).cost);
        state.realized += realized;
        return realized;
    }

    int undo() {
        if (past.isEmpty()) {
            return -1;
        }
        state = past.pop();
        return past.size();
    }

    boolean saveSnapshot(int slot) {
        if (slot != 0 && slot != 1) {
            return false;
        }
        slots[slot] = state.copy();
        return true;
    }

    boolean restoreSnapshot(int slot) {
        if (slot != 0 && slot != 1 || slots[slot] == null) {
            return false;
        }
        state = slots[slot].copy();
        past.clear();
        return true;
    }
}
