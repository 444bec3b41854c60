/**
 * An intercompany ledger of a group: mirrored items are matched or disputed, matched pairs are
 * netted through a center, goods carry unrealized profit and prices are held against a band.
 */
public final class IntercompanyLedger {

    /** What was asked for does not exist. */
    public static final int NONE = -1;

    private static final int MAX_BYTES = 600;
    private static final int BYTES_OF_AN_APPEND = 20;
    private static final int MAX_CURRENCIES = 4;
    private static final int MAX_COMPANIES = 6;
    private static final int MAX_PRODUCTS = 6;
    private static final int MAX_ITEMS = 100;
    private static final int MAX_DELIVERIES = 100;
    private static final int MAX_UNDO = 10;
    private static final int SLOTS = 2;

    private static final int RECEIVABLE = 0;
    private static final int PAYABLE = 1;

    // The states below SETTLED are those that still count in balances.
    private static final int OPEN = 0;
    private static final int MATCHED = 1;
    private static final int DISPUTED = 2;
    private static final int SETTLED = 3;
    private static final int CANCELLED = 4;

    private static final int HIGHEST_RATE = 9999;
    private static final int HIGHEST_COST = 9999;
    private static final int HIGHEST_VALUE = 9999;
    private static final int HIGHEST_LOW = 99;
    private static final int HIGHEST_HIGH = 999;
    private static final int HIGHEST_REFERENCE = 999;
    private static final int HIGHEST_BOOKING = 1000000;
    private static final int HIGHEST_ACCEPTED = 1000000000;
    private static final int HIGHEST_TOLERANCE = 1000000;
    private static final int HIGHEST_DELIVERY = 999;
    private static final int HIGHEST_SALE = 9999;
    private static final int HIGHEST_PRICE = 99999;

    private final GroupReader reader;
    private final Books books;
    private final Matcher matcher;
    private final Netting netting;
    private final Goods goods;
    private final History history;
    private final Snapshot[] slots;

    public IntercompanyLedger() {
        reader = new GroupReader();
        books = new Books();
        matcher = new Matcher();
        netting = new Netting();
        goods = new Goods();
        history = new History();
        slots = new Snapshot[SLOTS];
        for (int slot = 0; slot < SLOTS; slot++) {
            slots[slot] = new Snapshot();
        }
    }

    // ---- group

    public int append(int a, int b, int c, int d, int e) {
        return reader.addTwenty(a, b, c, d, e);
    }

    public int parse(int length) throws IllegalArgumentException {
        if (length < 0 || length > reader.filled) {
            throw new IllegalArgumentException("length is out of range");
        }
        int error = reader.readGroup(length);
        reader.filled = 0;
        if (error != 0) {
            return error;
        }
        books.startWith(reader.draft);
        history.forget();
        for (int slot = 0; slot < SLOTS; slot++) {
            slots[slot].filled = false;
        }
        return books.group.companies;
    }

    public int size(int what) throws IllegalArgumentException {
        switch (what) {
            case 0: return books.group.currencies;
            case 1: return books.group.companies;
            case 2: return books.group.products;
            case 3: return books.now.items;
            case 4: return books.now.deliveries;
            default: throw new IllegalArgumentException("what is out of range");
        }
    }

    public int rate(int currency) throws IndexOutOfBoundsException {
        requireCurrency(currency);
        return books.now.rate[currency];
    }

    public int currencyOf(int company) throws IndexOutOfBoundsException {
        requireCompany(company);
        return books.group.currency[company];
    }

    public int product(int product, int what) throws IndexOutOfBoundsException, IllegalArgumentException {
        requireProduct(product);
        switch (what) {
            case 0: return books.group.maker[product];
            case 1: return books.group.cost[product];
            case 2: return books.group.lower[product];
            case 3: return books.group.upper[product];
            default: throw new IllegalArgumentException("what is out of range");
        }
    }

    // ---- items

    public int item(int item, int what) throws IndexOutOfBoundsException, IllegalArgumentException {
        requireItem(item);
        switch (what) {
            case 0: return books.rows.company[item];
            case 1: return books.rows.partner[item];
            case 2: return books.rows.side[item];
            case 3: return books.rows.reference[item];
            case 4: return books.now.state[item];
            case 5: return books.now.pair[item];
            default: throw new IllegalArgumentException("what is out of range");
        }
    }

    public long amount(int item) throws IndexOutOfBoundsException {
        requireItem(item);
        return books.now.amount[item];
    }

    public long value(int item) throws IndexOutOfBoundsException {
        requireItem(item);
        return books.valueOf(item);
    }

    public long currencyDifference(int item) throws IndexOutOfBoundsException {
        requireItem(item);
        if (books.now.state[item] == CANCELLED) {
            return 0;
        }
        return books.valueOf(item) - books.now.booked[item];
    }

    public long pairDifference(int item) throws IndexOutOfBoundsException, IllegalStateException {
        requireItem(item);
        int other = books.now.pair[item];
        if (other < 0) {
            throw new IllegalStateException("the item is not paired");
        }
        long difference = books.valueOf(item) - books.valueOf(other);
        return books.rows.side[item] == RECEIVABLE ? difference : -difference;
    }

    public int candidates(int item) throws IndexOutOfBoundsException {
        requireItem(item);
        return matcher.openMirrors(books, item);
    }

    public int wouldPair(int item) throws IndexOutOfBoundsException, IllegalStateException {
        requireItem(item);
        if (books.rows.side[item] != RECEIVABLE || books.now.state[item] != OPEN) {
            throw new IllegalStateException("the item is not an open receivable");
        }
        matcher.planRun(books);
        return matcher.plan[item];
    }

    public long toleranceNeeded() {
        matcher.planRun(books);
        return matcher.widestPlanned(books);
    }

    public float matchRate() {
        int agreed = books.receivablesIn(MATCHED) + books.receivablesIn(SETTLED);
        int all = agreed + books.receivablesIn(DISPUTED);
        if (all == 0) {
            return 0.0f;
        }
        return (float) agreed / (float) all;
    }

    // ---- balances

    public long balance(int company, int partner) throws IndexOutOfBoundsException {
        requireCompany(company);
        requireCompany(partner);
        return books.balanceBetween(company, partner);
    }

    public long total(int what) throws IllegalArgumentException {
        switch (what) {
            case 0: return books.netOfStates(OPEN, DISPUTED);
            case 1: return books.netOfStates(OPEN, OPEN);
            case 2: return books.netOfStates(MATCHED, MATCHED);
            case 3: return books.netOfStates(DISPUTED, DISPUTED);
            case 4: return books.now.rounding;
            case 5: return books.now.fees;
            case 6: return books.now.realized;
            case 7: return goods.profitOfAll(books);
            default: throw new IllegalArgumentException("what is out of range");
        }
    }

    // ---- netting

    public long position(int company) throws IndexOutOfBoundsException {
        requireCompany(company);
        netting.findPositions(books);
        return netting.positions[company];
    }

    public long settledPosition(int company) throws IndexOutOfBoundsException {
        requireCompany(company);
        return books.now.settledPosition[company];
    }

    public int directPayments() {
        return netting.unevenPairs(books);
    }

    public int fewestPayments() {
        netting.findPositions(books);
        return netting.fewestFor(books.group.companies);
    }

    // ---- goods

    public int stock(int company, int product) throws IndexOutOfBoundsException {
        requireCompany(company);
        requireProduct(product);
        return goods.piecesOf(books, company, product);
    }

    public int oldestPrice(int company, int product) throws IndexOutOfBoundsException {
        requireCompany(company);
        requireProduct(product);
        return goods.firstPrice(books, company, product);
    }

    public long unrealized(int company) throws IndexOutOfBoundsException {
        requireCompany(company);
        return goods.profitAfter(books, company, NONE, 0);
    }

    public long unrealizedAfterSale(int company, int product, int quantity)
            throws IndexOutOfBoundsException, IllegalArgumentException, IllegalStateException {
        requireCompany(company);
        requireProduct(product);
        requireRange(quantity, 0, HIGHEST_SALE);
        requirePieces(company, product, quantity);
        return goods.profitAfter(books, company, product, quantity);
    }

    public float averageMargin(int company) throws IndexOutOfBoundsException {
        requireCompany(company);
        long cost = goods.costOfLots(books, company);
        if (cost == 0) {
            return 0.0f;
        }
        return (float) goods.profitAfter(books, company, NONE, 0) * (float) 100 / (float) cost;
    }

    public long gap(int delivery) throws IndexOutOfBoundsException {
        if (delivery < 0 || delivery >= books.now.deliveries) {
            throw new IndexOutOfBoundsException("there is no such delivery");
        }
        return goods.gapOf(books, delivery);
    }

    public long gapsOf(int company) throws IndexOutOfBoundsException {
        requireCompany(company);
        return goods.netGaps(books, company);
    }

    // ---- changes

    public int book(int company, int partner, int side, int reference, int amount)
            throws IndexOutOfBoundsException, IllegalArgumentException, IllegalStateException {
        requireCompany(company);
        requireCompany(partner);
        if (partner == company) {
            throw new IllegalArgumentException("the partner is the company");
        }
        requireRange(side, RECEIVABLE, PAYABLE);
        requireRange(reference, 0, HIGHEST_REFERENCE);
        requireRange(amount, 1, HIGHEST_BOOKING);
        if (books.now.items >= MAX_ITEMS) {
            throw new IllegalStateException("there are 100 items");
        }
        history.remember(books.now);
        int item = books.now.items;
        books.rows.putItem(item, company, partner, side, reference);
        books.openItem(amount);
        return item;
    }

    public long cancel(int item) throws IndexOutOfBoundsException, IllegalStateException {
        requireItem(item);
        if (books.now.state[item] != OPEN) {
            throw new IllegalStateException("the item is not open");
        }
        history.remember(books.now);
        long before = books.valueOf(item);
        books.now.state[item] = CANCELLED;
        return before;
    }

    public int match() {
        history.remember(books.now);
        matcher.planRun(books);
        return matcher.pairAsPlanned(books);
    }

    public int release(int item) throws IndexOutOfBoundsException, IllegalStateException {
        requireItem(item);
        int state = books.now.state[item];
        int other = books.now.pair[item];
        if (other < 0 || (state != MATCHED && state != DISPUTED)) {
            throw new IllegalStateException("the item is neither matched nor disputed");
        }
        history.remember(books.now);
        books.now.putPair(item, NONE, OPEN);
        books.now.putPair(other, NONE, OPEN);
        return other;
    }

    public long accept(int item) throws IndexOutOfBoundsException, IllegalStateException {
        requireItem(item);
        int other = books.now.pair[item];
        if (other < 0 || books.now.state[item] != DISPUTED) {
            throw new IllegalStateException("the item is not disputed");
        }
        long amount = books.amountWorth(books.valueOf(item), other);
        if (amount < 1 || amount > HIGHEST_ACCEPTED) {
            throw new IllegalStateException("the new amount is out of range");
        }
        history.remember(books.now);
        books.now.putPair(item, other, MATCHED);
        books.now.putPair(other, item, MATCHED);
        books.now.amount[other] = (int) amount;
        books.now.booked[other] = books.valueOf(other);
        return amount;
    }

    public int setRate(int currency, int rate) throws IndexOutOfBoundsException, IllegalArgumentException {
        requireCurrency(currency);
        requireRange(rate, 1, HIGHEST_RATE);
        history.remember(books.now);
        int before = books.now.rate[currency];
        books.now.rate[currency] = rate;
        return before;
    }

    public int setTolerance(int value) throws IllegalArgumentException {
        requireRange(value, 0, HIGHEST_TOLERANCE);
        history.remember(books.now);
        int before = books.now.tolerance;
        books.now.tolerance = value;
        return before;
    }

    public int net() throws IllegalStateException {
        if (books.receivablesIn(MATCHED) == 0) {
            throw new IllegalStateException("there is no matched pair");
        }
        history.remember(books.now);
        netting.findPositions(books);
        return netting.settle(books);
    }

    public int deliver(int product, int from, int to, int quantity, int price)
            throws IndexOutOfBoundsException, IllegalArgumentException, IllegalStateException {
        requireProduct(product);
        requireCompany(from);
        requireCompany(to);
        if (from == to || to == books.group.maker[product]) {
            throw new IllegalArgumentException("this company cannot get the pieces");
        }
        requireRange(quantity, 1, HIGHEST_DELIVERY);
        requireRange(price, 1, HIGHEST_PRICE);
        requirePieces(from, product, quantity);
        if (books.now.deliveries >= MAX_DELIVERIES) {
            throw new IllegalStateException("there are 100 deliveries");
        }
        history.remember(books.now);
        goods.take(books, from, product, quantity);
        int delivery = books.now.deliveries;
        books.rows.putDelivery(delivery, product, from, to, quantity, price);
        books.now.left[delivery] = quantity;
        books.now.deliveries++;
        return delivery;
    }

    public long sell(int company, int product, int quantity, int price)
            throws IndexOutOfBoundsException, IllegalArgumentException, IllegalStateException {
        requireCompany(company);
        requireProduct(product);
        requireRange(quantity, 1, HIGHEST_SALE);
        requireRange(price, 1, HIGHEST_PRICE);
        requirePieces(company, product, quantity);
        history.remember(books.now);
        goods.take(books, company, product, quantity);
        long realized = (long) quantity * (price - books.group.cost[product]);
        books.now.realized += realized;
        return realized;
    }

    // ---- undo and snapshots

    public int undo() {
        if (history.count == 0) {
            return NONE;
        }
        history.goBack(books.now);
        return history.count;
    }

    public boolean saveSnapshot(int slot) {
        if (slot < 0 || slot >= SLOTS) {
            return false;
        }
        slots[slot].keep(books);
        return true;
    }

    public boolean restoreSnapshot(int slot) {
        if (slot < 0 || slot >= SLOTS || !slots[slot].filled) {
            return false;
        }
        slots[slot].giveBack(books);
        history.forget();
        return true;
    }

    // ---- what calls ask of their arguments

    private void requireCurrency(int currency) {
        if (currency < 0 || currency >= books.group.currencies) {
            throw new IndexOutOfBoundsException("there is no such currency");
        }
    }

    private void requireCompany(int company) {
        if (company < 0 || company >= books.group.companies) {
            throw new IndexOutOfBoundsException("there is no such company");
        }
    }

    private void requireProduct(int product) {
        if (product < 0 || product >= books.group.products) {
            throw new IndexOutOfBoundsException("there is no such product");
        }
    }

    private void requireItem(int item) {
        if (item < 0 || item >= books.now.items) {
            throw new IndexOutOfBoundsException("there is no such item");
        }
    }

    private static void requireRange(int number, int lowest, int highest) {
        if (number < lowest || number > highest) {
            throw new IllegalArgumentException("an argument is out of range");
        }
    }

    private void requirePieces(int company, int product, int quantity) {
        if (company != books.group.maker[product] && goods.piecesOf(books, company, product) < quantity) {
            throw new IllegalStateException("the company has not so many pieces");
        }
    }

    /** What the text of the group says; changes never alter it. */
    private static final class Group {
        int currencies;
        int companies;
        int products;
        int tolerance;
        int center;
        int fee;
        final int[] firstRate = new int[MAX_CURRENCIES];
        final int[] currency = new int[MAX_COMPANIES];
        final int[] maker = new int[MAX_PRODUCTS];
        final int[] cost = new int[MAX_PRODUCTS];
        final int[] lower = new int[MAX_PRODUCTS];
        final int[] upper = new int[MAX_PRODUCTS];

        void clear() {
            currencies = 0;
            companies = 0;
            products = 0;
            tolerance = 0;
            center = 0;
            fee = 0;
        }

        void copyFrom(Group other) {
            currencies = other.currencies;
            companies = other.companies;
            products = other.products;
            tolerance = other.tolerance;
            center = other.center;
            fee = other.fee;
            System.arraycopy(other.firstRate, 0, firstRate, 0, MAX_CURRENCIES);
            System.arraycopy(other.currency, 0, currency, 0, MAX_COMPANIES);
            System.arraycopy(other.maker, 0, maker, 0, MAX_PRODUCTS);
            System.arraycopy(other.cost, 0, cost, 0, MAX_PRODUCTS);
            System.arraycopy(other.lower, 0, lower, 0, MAX_PRODUCTS);
            System.arraycopy(other.upper, 0, upper, 0, MAX_PRODUCTS);
        }

        void addCurrency(int rate) {
            firstRate[currencies] = rate;
            currencies++;
        }

        void addCompany(int itsCurrency) {
            currency[companies] = itsCurrency;
            companies++;
        }

        void addProduct(int itsMaker, int itsCost, int low, int high) {
            maker[products] = itsMaker;
            cost[products] = itsCost;
            lower[products] = itsCost + itsCost * low / 100;
            upper[products] = itsCost + itsCost * high / 100;
            products++;
        }
    }

    /**
     * The input buffer and the parser of the group text. It reads into a draft, so that a text with
     * an error leaves the present group alone; after the first error it reads no further, and as
     * it goes from left to right that error has the lowest offset.
     */
    private static final class GroupReader {
        private static final int SYNTAX = 1;
        private static final int REPEATED = 2;
        private static final int RANGE = 3;
        private static final int TOO_MANY = 4;

        private static final int END = 0;
        private static final int WORD = 1;
        private static final int NUMBER = 2;
        private static final int SEMICOLON = 3;
        private static final int ILLEGAL = 4;

        private static final int LONGEST_WORD = 9;
        private static final int LONGEST_NUMBER = 4;

        final Group draft = new Group();
        int filled;
        private final byte[] bytes = new byte[MAX_BYTES];
        private int end;
        private int kind;
        private int start;
        private int next;
        private int error;
        private boolean toleranceSeen;
        private boolean centerSeen;
        private boolean feeSeen;

        int addTwenty(int a, int b, int c, int d, int e) {
            if (filled > MAX_BYTES - BYTES_OF_AN_APPEND) {
                return NONE;
            }
            addFour(a);
            addFour(b);
            addFour(c);
            addFour(d);
            addFour(e);
            return filled;
        }

        private void addFour(int word) {
            for (int shift = 24; shift >= 0; shift -= 8) {
                bytes[filled] = (byte) (word >> shift);
                filled++;
            }
        }

        /** Answers 0, or what parse answers for the first error. */
        int readGroup(int length) {
            draft.clear();
            end = length;
            next = 0;
            error = 0;
            toleranceSeen = false;
            centerSeen = false;
            feeSeen = false;
            readToken();
            // A statement takes bytes of its own, so there are never more of them than bytes.
            for (int statement = 0; statement < MAX_BYTES; statement++) {
                if (error != 0 || kind == END) {
                    break;
                }
                readStatement();
            }
            return error;
        }

        private void readStatement() {
            if (isWord("currency")) {
                readCurrency();
            } else if (isWord("company")) {
                readCompany();
            } else if (isWord("product")) {
                readProduct();
            } else if (isWord("tolerance")) {
                readTolerance();
            } else if (isWord("center")) {
                readCenter();
            } else if (isWord("fee")) {
                readFee();
            } else {
                refuse(SYNTAX);
            }
        }

        private void readCurrency() {
            passWord(false, draft.currencies >= MAX_CURRENCIES);
            int rate = readNumber(1, HIGHEST_RATE);
            passSemicolon();
            if (error == 0) {
                draft.addCurrency(rate);
            }
        }

        private void readCompany() {
            passWord(false, draft.companies >= MAX_COMPANIES);
            int currency = readNumber(0, draft.currencies - 1);
            passSemicolon();
            if (error == 0) {
                draft.addCompany(currency);
            }
        }

        private void readProduct() {
            passWord(false, draft.products >= MAX_PRODUCTS);
            int maker = readNumber(0, draft.companies - 1);
            int cost = readNumber(1, HIGHEST_COST);
            int low = readNumber(0, HIGHEST_LOW);
            int high = readNumber(low, HIGHEST_HIGH);
            passSemicolon();
            if (error == 0) {
                draft.addProduct(maker, cost, low, high);
            }
        }

        private void readTolerance() {
            passWord(toleranceSeen, false);
            toleranceSeen = true;
            draft.tolerance = readNumber(0, HIGHEST_VALUE);
            passSemicolon();
        }

        private void readCenter() {
            passWord(centerSeen, false);
            centerSeen = true;
            draft.center = readNumber(0, draft.companies - 1);
            passSemicolon();
        }

        private void readFee() {
            passWord(feeSeen, false);
            feeSeen = true;
            draft.fee = readNumber(0, HIGHEST_VALUE);
            passSemicolon();
        }

        private void passWord(boolean repeated, boolean tooMany) {
            if (repeated) {
                refuse(REPEATED);
            } else if (tooMany) {
                refuse(TOO_MANY);
            } else {
                readToken();
            }
        }

        /** Reads a number of a statement; 0 if the text has an error. */
        private int readNumber(int lowest, int highest) {
            if (error != 0) {
                return 0;
            }
            if (kind != NUMBER) {
                refuse(SYNTAX);
                return 0;
            }
            int number = 0;
            for (int at = start; at < next; at++) {
                number = number * 10 + (bytes[at] - '0');
            }
            if (number < lowest || number > highest) {
                refuse(RANGE);
                return 0;
            }
            readToken();
            return number;
        }

        private void passSemicolon() {
            if (error != 0) {
                return;
            }
            if (kind != SEMICOLON) {
                refuse(SYNTAX);
                return;
            }
            readToken();
        }

        private void refuse(int errorKind) {
            error = -2 - (8 * start + errorKind);
        }

        private boolean isWord(String word) {
            if (kind != WORD || next - start != word.length()) {
                return false;
            }
            for (int at = start; at < next; at++) {
                if (bytes[at] != word.charAt(at - start)) {
                    return false;
                }
            }
            return true;
        }

        private void readToken() {
            while (next < end && (bytes[next] == ' ' || bytes[next] == '\n')) {
                next++;
            }
            start = next;
            if (next >= end) {
                kind = END;
                return;
            }
            int first = bytes[next];
            next++;
            if (first >= 'a' && first <= 'z') {
                passRun('a', 'z');
                kind = next - start <= LONGEST_WORD ? WORD : ILLEGAL;
            } else if (first >= '0' && first <= '9') {
                passRun('0', '9');
                kind = next - start <= LONGEST_NUMBER ? NUMBER : ILLEGAL;
            } else {
                kind = first == ';' ? SEMICOLON : ILLEGAL;
            }
        }

        private void passRun(int lowest, int highest) {
            while (next < end && bytes[next] >= lowest && bytes[next] <= highest) {
                next++;
            }
        }
    }

    /**
     * What stays the same about an item or a delivery once it is there. Changes only put rows
     * behind the others, so undoing needs no copy of these: the older rows still stand.
     */
    private static final class Rows {
        final int[] company = new int[MAX_ITEMS];
        final int[] partner = new int[MAX_ITEMS];
        final int[] side = new int[MAX_ITEMS];
        final int[] reference = new int[MAX_ITEMS];
        final int[] product = new int[MAX_DELIVERIES];
        final int[] from = new int[MAX_DELIVERIES];
        final int[] to = new int[MAX_DELIVERIES];
        final int[] quantity = new int[MAX_DELIVERIES];
        final int[] price = new int[MAX_DELIVERIES];

        void putItem(int item, int itsCompany, int itsPartner, int itsSide, int itsReference) {
            company[item] = itsCompany;
            partner[item] = itsPartner;
            side[item] = itsSide;
            reference[item] = itsReference;
        }

        void putDelivery(int delivery, int itsProduct, int giver, int taker, int pieces, int itsPrice) {
            product[delivery] = itsProduct;
            from[delivery] = giver;
            to[delivery] = taker;
            quantity[delivery] = pieces;
            price[delivery] = itsPrice;
        }

        void copyFrom(Rows other, int items, int deliveries) {
            System.arraycopy(other.company, 0, company, 0, items);
            System.arraycopy(other.partner, 0, partner, 0, items);
            System.arraycopy(other.side, 0, side, 0, items);
            System.arraycopy(other.reference, 0, reference, 0, items);
            System.arraycopy(other.product, 0, product, 0, deliveries);
            System.arraycopy(other.from, 0, from, 0, deliveries);
            System.arraycopy(other.to, 0, to, 0, deliveries);
            System.arraycopy(other.quantity, 0, quantity, 0, deliveries);
            System.arraycopy(other.price, 0, price, 0, deliveries);
        }
    }

    /** What changes alter in place. Each delivery makes one lot: left is what that lot still has. */
    private static final class Standing {
        int items;
        int deliveries;
        int tolerance;
        long rounding;
        long fees;
        long realized;
        final int[] amount = new int[MAX_ITEMS];
        final int[] state = new int[MAX_ITEMS];
        final int[] pair = new int[MAX_ITEMS];
        final long[] booked = new long[MAX_ITEMS];
        final long[] settled = new long[MAX_ITEMS];
        final int[] left = new int[MAX_DELIVERIES];
        final int[] rate = new int[MAX_CURRENCIES];
        final long[] settledPosition = new long[MAX_COMPANIES];

        void startWith(Group group) {
            items = 0;
            deliveries = 0;
            tolerance = group.tolerance;
            rounding = 0;
            fees = 0;
            realized = 0;
            System.arraycopy(group.firstRate, 0, rate, 0, MAX_CURRENCIES);
            for (int company = 0; company < MAX_COMPANIES; company++) {
                settledPosition[company] = 0;
            }
        }

        void putPair(int item, int other, int newState) {
            pair[item] = other;
            state[item] = newState;
        }

        void copyFrom(Standing other) {
            items = other.items;
            deliveries = other.deliveries;
            tolerance = other.tolerance;
            rounding = other.rounding;
            fees = other.fees;
            realized = other.realized;
            System.arraycopy(other.amount, 0, amount, 0, items);
            System.arraycopy(other.state, 0, state, 0, items);
            System.arraycopy(other.pair, 0, pair, 0, items);
            System.arraycopy(other.booked, 0, booked, 0, items);
            System.arraycopy(other.settled, 0, settled, 0, items);
            System.arraycopy(other.left, 0, left, 0, deliveries);
            System.arraycopy(other.rate, 0, rate, 0, MAX_CURRENCIES);
            System.arraycopy(other.settledPosition, 0, settledPosition, 0, MAX_COMPANIES);
        }
    }

    /** The group with its items and deliveries as they are now. */
    private static final class Books {
        final Group group = new Group();
        final Rows rows = new Rows();
        final Standing now = new Standing();

        void startWith(Group newGroup) {
            group.copyFrom(newGroup);
            now.startWith(group);
        }

        /** Opens the item whose row was put behind the others. */
        void openItem(int itsAmount) {
            int item = now.items;
            now.putPair(item, NONE, OPEN);
            now.amount[item] = itsAmount;
            now.booked[item] = valueOf(item);
            now.items++;
        }

        int rateOf(int item) {
            return now.rate[group.currency[rows.company[item]]];
        }

        long valueOf(int item) {
            int state = now.state[item];
            if (state == CANCELLED) {
                return 0;
            }
            if (state == SETTLED) {
                return now.settled[item];
            }
            return (long) now.amount[item] * rateOf(item) / 100;
        }

        /** The amount by which an item would have a value; 0 if no rate could tell it. */
        long amountWorth(long worth, int item) {
            int rate = rateOf(item);
            if (rate < 1) {
                return 0;
            }
            return worth * 100 / rate;
        }

        boolean isIn(int item, int side, int state) {
            return rows.side[item] == side && now.state[item] == state;
        }

        /** For the states of pairs this is the number of pairs: each has one receivable. */
        int receivablesIn(int state) {
            int number = 0;
            for (int item = 0; item < now.items; item++) {
                if (isIn(item, RECEIVABLE, state)) {
                    number++;
                }
            }
            return number;
        }

        long netOfStates(int first, int last) {
            long sum = 0;
            for (int item = 0; item < now.items; item++) {
                int state = now.state[item];
                if (state >= first && state <= last) {
                    sum += rows.side[item] == RECEIVABLE ? valueOf(item) : -valueOf(item);
                }
            }
            return sum;
        }

        long balanceBetween(int company, int partner) {
            long sum = 0;
            for (int item = 0; item < now.items; item++) {
                if (now.state[item] >= SETTLED) {
                    continue;
                }
                if (rows.side[item] == RECEIVABLE) {
                    if (rows.company[item] == company && rows.partner[item] == partner) {
                        sum += valueOf(item);
                    }
                } else if (rows.company[item] == partner && rows.partner[item] == company) {
                    sum -= valueOf(item);
                }
            }
            return sum;
        }
    }

    /** Pairs open receivables with open payables. The pairs do not depend on the tolerance. */
    private static final class Matcher {
        final int[] plan = new int[MAX_ITEMS];

        private static boolean mirrors(Rows rows, int item, int other) {
            return rows.side[item] != rows.side[other]
                    && rows.reference[item] == rows.reference[other]
                    && rows.company[item] == rows.partner[other]
                    && rows.partner[item] == rows.company[other];
        }

        private static long distance(Books books, int item, int other) {
            return Math.abs(books.valueOf(item) - books.valueOf(other));
        }

        int openMirrors(Books books, int item) {
            int number = 0;
            for (int other = 0; other < books.now.items; other++) {
                if (books.now.state[other] == OPEN && mirrors(books.rows, item, other)) {
                    number++;
                }
            }
            return number;
        }

        /** Puts for each item the one with which a match run would pair it now, or NONE. */
        void planRun(Books books) {
            for (int item = 0; item < books.now.items; item++) {
                plan[item] = NONE;
            }
            for (int item = 0; item < books.now.items; item++) {
                if (books.isIn(item, RECEIVABLE, OPEN)) {
                    int payable = nearestFree(books, item);
                    if (payable >= 0) {
                        plan[item] = payable;
                        plan[payable] = item;
                    }
                }
            }
        }

        private int nearestFree(Books books, int receivable) {
            int nearest = NONE;
            long smallest = 0;
            for (int other = 0; other < books.now.items; other++) {
                if (plan[other] >= 0 || books.now.state[other] != OPEN || !mirrors(books.rows, receivable, other)) {
                    continue;
                }
                long difference = distance(books, receivable, other);
                if (nearest < 0 || difference < smallest) {
                    nearest = other;
                    smallest = difference;
                }
            }
            return nearest;
        }

        long widestPlanned(Books books) {
            long widest = NONE;
            for (int item = 0; item < books.now.items; item++) {
                if (plan[item] >= 0) {
                    widest = Math.max(widest, distance(books, item, plan[item]));
                }
            }
            return widest;
        }

        /** Answers the number of pairs. */
        int pairAsPlanned(Books books) {
            int pairs = 0;
            for (int item = 0; item < books.now.items; item++) {
                int other = plan[item];
                if (other >= 0 && books.rows.side[item] == RECEIVABLE) {
                    int state = distance(books, item, other) <= books.now.tolerance ? MATCHED : DISPUTED;
                    books.now.putPair(item, other, state);
                    books.now.putPair(other, item, state);
                    pairs++;
                }
            }
            return pairs;
        }
    }

    /** Positions from matched pairs, and what it takes to pay them. */
    private static final class Netting {
        private static final int MAX_SETS = 1 << MAX_COMPANIES;

        final long[] positions = new long[MAX_COMPANIES];
        private final long[] setSum = new long[MAX_SETS];
        private final int[] setParts = new int[MAX_SETS];

        void findPositions(Books books) {
            for (int company = 0; company < MAX_COMPANIES; company++) {
                positions[company] = 0;
            }
            for (int item = 0; item < books.now.items; item++) {
                if (books.isIn(item, RECEIVABLE, MATCHED)) {
                    long value = books.valueOf(item);
                    positions[books.rows.company[item]] += value;
                    positions[books.rows.partner[item]] -= value;
                }
            }
        }

        /** Settles by the positions found before; answers the number of payments. */
        int settle(Books books) {
            settlePairs(books);
            int payments = 0;
            for (int company = 0; company < books.group.companies; company++) {
                books.now.settledPosition[company] = positions[company];
                if (company != books.group.center && positions[company] != 0) {
                    payments++;
                }
            }
            books.now.fees += (long) payments * books.group.fee;
            return payments;
        }

        private static void settlePairs(Books books) {
            for (int item = 0; item < books.now.items; item++) {
                if (books.now.state[item] == MATCHED) {
                    long value = books.valueOf(item);
                    books.now.settled[item] = value;
                    books.now.state[item] = SETTLED;
                    books.now.rounding += books.rows.side[item] == RECEIVABLE ? value : -value;
                }
            }
        }

        int unevenPairs(Books books) {
            int number = 0;
            for (int one = 0; one < books.group.companies; one++) {
                for (int other = one + 1; other < books.group.companies; other++) {
                    if (owedTo(books, one, other) != owedTo(books, other, one)) {
                        number++;
                    }
                }
            }
            return number;
        }

        private static long owedTo(Books books, int company, int partner) {
            long sum = 0;
            for (int item = 0; item < books.now.items; item++) {
                if (books.isIn(item, RECEIVABLE, MATCHED)
                        && books.rows.company[item] == company && books.rows.partner[item] == partner) {
                    sum += books.valueOf(item);
                }
            }
            return sum;
        }

        /**
         * Companies whose positions add up to 0 can pay among themselves with one payment less
         * than there are of them, and never with fewer unless they fall apart into smaller such
         * parts. So the fewest payments are the companies less the most parts with sum 0.
         */
        int fewestFor(int companies) {
            int sets = 1 << companies;
            setSum[0] = 0;
            setParts[0] = 0;
            for (int set = 1; set < sets; set++) {
                int most = 0;
                for (int company = 0; company < companies; company++) {
                    int bit = 1 << company;
                    if ((set & bit) != 0) {
                        setSum[set] = setSum[set - bit] + positions[company];
                        most = Math.max(most, setParts[set - bit]);
                    }
                }
                setParts[set] = setSum[set] == 0 ? most + 1 : most;
            }
            return companies - setParts[sets - 1];
        }
    }

    /** The lots and the deliveries from which they came. */
    private static final class Goods {

        private static boolean isLot(Books books, int delivery, int company, int product) {
            return books.now.left[delivery] > 0
                    && books.rows.to[delivery] == company && books.rows.product[delivery] == product;
        }

        private static int costOf(Books books, int delivery) {
            return books.group.cost[books.rows.product[delivery]];
        }

        private static long profitOn(Books books, int delivery, int pieces) {
            return (long) pieces * (books.rows.price[delivery] - costOf(books, delivery));
        }

        int piecesOf(Books books, int company, int product) {
            int pieces = 0;
            for (int delivery = 0; delivery < books.now.deliveries; delivery++) {
                if (isLot(books, delivery, company, product)) {
                    pieces += books.now.left[delivery];
                }
            }
            return pieces;
        }

        int firstPrice(Books books, int company, int product) {
            for (int delivery = 0; delivery < books.now.deliveries; delivery++) {
                if (isLot(books, delivery, company, product)) {
                    return books.rows.price[delivery];
                }
            }
            return NONE;
        }

        /** A maker has no lots of its product, so nothing is taken from it. */
        void take(Books books, int company, int product, int quantity) {
            int missing = quantity;
            for (int delivery = 0; delivery < books.now.deliveries; delivery++) {
                if (isLot(books, delivery, company, product)) {
                    int taken = Math.min(missing, books.now.left[delivery]);
                    books.now.left[delivery] -= taken;
                    missing -= taken;
                }
            }
        }

        /** The profit in the lots of a company if a quantity of a product were taken from them. */
        long profitAfter(Books books, int company, int product, int quantity) {
            int missing = quantity;
            long profit = 0;
            for (int delivery = 0; delivery < books.now.deliveries; delivery++) {
                if (books.rows.to[delivery] != company) {
                    continue;
                }
                int pieces = books.now.left[delivery];
                if (books.rows.product[delivery] == product) {
                    int taken = Math.min(missing, pieces);
                    pieces -= taken;
                    missing -= taken;
                }
                profit += profitOn(books, delivery, pieces);
            }
            return profit;
        }

        long profitOfAll(Books books) {
            long profit = 0;
            for (int delivery = 0; delivery < books.now.deliveries; delivery++) {
                profit += profitOn(books, delivery, books.now.left[delivery]);
            }
            return profit;
        }

        long costOfLots(Books books, int company) {
            long sum = 0;
            for (int delivery = 0; delivery < books.now.deliveries; delivery++) {
                if (books.rows.to[delivery] == company) {
                    sum += (long) books.now.left[delivery] * costOf(books, delivery);
                }
            }
            return sum;
        }

        long gapOf(Books books, int delivery) {
            int product = books.rows.product[delivery];
            int price = books.rows.price[delivery];
            long quantity = books.rows.quantity[delivery];
            if (price < books.group.lower[product]) {
                return quantity * (price - books.group.lower[product]);
            }
            if (price > books.group.upper[product]) {
                return quantity * (price - books.group.upper[product]);
            }
            return 0;
        }

        long netGaps(Books books, int company) {
            long sum = 0;
            for (int delivery = 0; delivery < books.now.deliveries; delivery++) {
                if (books.rows.from[delivery] == company) {
                    sum += gapOf(books, delivery);
                }
                if (books.rows.to[delivery] == company) {
                    sum -= gapOf(books, delivery);
                }
            }
            return sum;
        }
    }

    /** A ring of what stood before each of the latest changes. */
    private static final class History {
        int count;
        private int next;
        private final Standing[] before;

        History() {
            before = new Standing[MAX_UNDO];
            for (int place = 0; place < MAX_UNDO; place++) {
                before[place] = new Standing();
            }
        }

        void remember(Standing now) {
            before[next].copyFrom(now);
            next = next == MAX_UNDO - 1 ? 0 : next + 1;
            count = Math.min(count + 1, MAX_UNDO);
        }

        void goBack(Standing now) {
            next = next == 0 ? MAX_UNDO - 1 : next - 1;
            count--;
            now.copyFrom(before[next]);
        }

        void forget() {
            count = 0;
        }
    }

    /** A slot. It keeps rows too, as other rows may be put after what it holds was undone. */
    private static final class Snapshot {
        boolean filled;
        private final Rows rows = new Rows();
        private final Standing standing = new Standing();

        void keep(Books books) {
            standing.copyFrom(books.now);
            rows.copyFrom(books.rows, standing.items, standing.deliveries);
            filled = true;
        }

        void giveBack(Books books) {
            books.now.copyFrom(standing);
            books.rows.copyFrom(rows, standing.items, standing.deliveries);
        }
    }
}
