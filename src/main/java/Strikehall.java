import java.util.ArrayList;

/**
 * A house that makes markets in options on one share. Prices are in cents, money and marks in
 * thousandths of cents. ../shared/DOC.md says what each call promises.
 */
public final class Strikehall {
    /** None; the house. */
    public static final int NONE = -1;
    /** Contracts. */
    public static final int CALL = 0, PUT = 1;

    private static final int CUSTOMERS = 6;
    // the house stands behind the customers, where the draw of an assignment wants it
    private static final int HOUSE = CUSTOMERS;
    private static final int HOLDERS = CUSTOMERS + 1;

    private static final int MOST_CONTRACTS = 12;
    private static final int MOST_AHEAD = 10;
    private static final int LAST_DAY = 200;
    private static final int MOST_PRICE = 20000;
    private static final int MOST_STEP = 10;
    private static final int MOST_DIVIDEND = 1000;
    private static final int MOST_SIZE = 100;
    private static final int MOST_LIMIT = 1000;
    private static final int MOST_ORDERED = 100;
    private static final int MOST_EXERCISED = 1000;
    private static final int MOST_TRADED = 10000;
    private static final int MOST_COST = 10000;
    private static final int MOST_SHARES = 100000;
    private static final int MOST_STEPS_OFF = 100;

    private static final int STEP_CENTS = 10;
    private static final int THOUSAND = 1000;

    private static final int BY_ORDERS = 0;
    private static final int BY_MOVES = 1;
    private static final int BY_DAYS = 2;
    private static final int BY_SHARES = 3;
    private static final int BY_EXERCISE = 4;
    private static final int BY_TELLING = 5;
    private static final int CAUSES = 6;

    private final Share share = new Share();
    private final Lottery lottery = new Lottery();
    private final ArrayList<Contract> contracts = new ArrayList<>();
    private final long[] purses = new long[HOLDERS];
    private final long[] profits = new long[CAUSES];
    private int mostLots = 100;
    private int heldShares = 0;
    private int shareCost = 500;

    /** Creates a house without contracts; its limit is 100 lots. */
    public Strikehall() {
    }

    // ---- the share, contracts

    /** Tells the steps, in tens of cents. */
    public void steps(int up, int down) throws IllegalArgumentException {
        checkRange(up, 1, MOST_STEP);
        checkRange(down, 1, MOST_STEP);
        long before = worthNow();
        share.up = up;
        share.down = down;
        addProfit(BY_TELLING, worthNow() - before);
    }

    /** Moves the price; returns what the house is worth more by that. */
    public long move(int price) throws IllegalArgumentException {
        checkRange(price, 0, MOST_PRICE);
        long before = worthNow();
        share.price = price;
        long more = worthNow() - before;
        addProfit(BY_MOVES, more);
        return more;
    }

    /** Tells a dividend, in place of one for that day; returns the one before. */
    public int dividend(int day, int cents) throws IllegalArgumentException {
        checkRange(day, share.today + 1, LAST_DAY);
        checkRange(cents, 0, MOST_DIVIDEND);
        long before = worthNow();
        int former = share.dividendOn(day);
        share.tellDividend(day, cents);
        addProfit(BY_TELLING, worthNow() - before);
        return former;
    }

    /** Makes a contract; returns its number. */
    public int contract(int kind, int strike, int expiry, boolean isAmerican)
            throws IllegalArgumentException, IllegalStateException {
        checkRange(kind, CALL, PUT);
        checkRange(strike, 0, MOST_PRICE);
        checkRange(expiry, share.today, Math.min(share.today + MOST_AHEAD, LAST_DAY));
        int number = contracts.size();
        if (number >= MOST_CONTRACTS) {
            throw new IllegalStateException("there are 12 contracts");
        }
        contracts.add(new Contract(kind, strike, expiry, isAmerican));
        return number;
    }

    // ---- quotes, orders, hedges

    /** Quotes a contract; returns the first fault of all quotes then. */
    public int quote(int contract, int bid, int ask, int size)
            throws IndexOutOfBoundsException, IllegalArgumentException, IllegalStateException {
        Contract quoted = contractOf(contract);
        checkRange(bid, 0, MOST_PRICE);
        checkRange(ask, 0, MOST_PRICE);
        checkRange(size, 0, MOST_SIZE);
        checkNotOver(quoted);
        quoted.tellQuote(bid, ask, size);
        return firstFault();
    }

    /** Takes all quotes away; returns how many had something left, of either size. */
    public int kill() {
        int killed = 0;
        for (int i = 0; i < contracts.size(); i++) {
            Contract contract = contracts.get(i);
            if (contract.hasSomethingLeft()) {
                killed++;
            }
            contract.takeQuoteAway();
        }
        return killed;
    }

    /** Sets the limit of the house for each contract; returns the one before. */
    public int limit(int lots) throws IllegalArgumentException {
        checkRange(lots, 0, MOST_LIMIT);
        int former = mostLots;
        mostLots = lots;
        return former;
    }

    /** Orders lots, to buy, or, below 0, to sell; returns how many are dealt. */
    public int order(int customer, int contract, int lots, int limit)
            throws IndexOutOfBoundsException, IllegalArgumentException, IllegalStateException {
        checkCustomer(customer);
        Contract ordered = contractOf(contract);
        checkRange(lots, -MOST_ORDERED, MOST_ORDERED);
        if (lots == 0) {
            throw new IllegalArgumentException("no lots are ordered");
        }
        checkRange(limit, 0, MOST_PRICE);
        checkNotOver(ordered);
        long before = worthNow();
        int dealt = lots > 0 ? buy(customer, ordered, lots, limit) : sell(customer, ordered, -lots, limit);
        ordered.endQuoteUsedUp();
        addProfit(BY_ORDERS, worthNow() - before);
        return dealt;
    }

    /** Trades shares for the house; returns how many it has then. */
    public int hedge(int shares, int cost) throws IllegalArgumentException {
        checkRange(shares, -MOST_TRADED, MOST_TRADED);
        checkRange(cost, 0, MOST_COST);
        checkRange(heldShares + shares, -MOST_SHARES, MOST_SHARES);
        long before = worthNow();
        shareCost = cost;
        heldShares += shares;
        addMoney(HOUSE, -(long) THOUSAND * share.price * shares);
        addMoney(HOUSE, -(long) shareCost * Math.abs(shares));
        addProfit(BY_SHARES, worthNow() - before);
        return heldShares;
    }

    // ---- exercise, days

    /** Sets the seed of the draws. */
    public void seed(int seed) throws IllegalArgumentException {
        if (seed < 0) {
            throw new IllegalArgumentException("the seed is below 0");
        }
        lottery.state = seed;
    }

    /** Exercises lots; returns what one lot brings, in cents. */
    public int exercise(int holder, int contract, int lots)
            throws IndexOutOfBoundsException, IllegalArgumentException, IllegalStateException {
        int place = placeOf(holder);
        Contract exercised = contractOf(contract);
        checkRange(lots, 1, MOST_EXERCISED);
        checkNotOver(exercised);
        if (exercised.lotsAt(place) < lots) {
            throw new IllegalStateException("there are fewer lots");
        }
        if (!exercised.isAmerican && exercised.expiry != share.today) {
            throw new IllegalStateException("it may not be exercised today");
        }
        long before = worthNow();
        exerciseLots(place, exercised, lots);
        addProfit(BY_EXERCISE, worthNow() - before);
        return exercised.paysAt(share.price);
    }

    /** Gives a contrary notice, or takes it back; returns whether that changes something. */
    public boolean contrary(int customer, int contract, boolean isGiven)
            throws IndexOutOfBoundsException, IllegalStateException {
        checkCustomer(customer);
        Contract noticed = contractOf(contract);
        checkNotOver(noticed);
        return noticed.setNotice(customer, isGiven);
    }

    /** Closes today; returns the day that is then. */
    public int close() throws IllegalStateException {
        if (share.today >= LAST_DAY) {
            throw new IllegalStateException("today is the last day");
        }
        long before = worthNow();
        for (int i = 0; i < contracts.size(); i++) {
            Contract contract = contracts.get(i);
            if (contract.expiry == share.today) {
                expire(contract);
            }
        }
        long between = worthNow();
        share.today++;
        addProfit(BY_EXERCISE, between - before);
        addProfit(BY_DAYS, worthNow() - between);
        return share.today;
    }

    // ---- what is asked

    /** Returns the value of a contract: the number below, or above, of a part in lowest terms. */
    public long value(int contract, boolean isBelow) throws IndexOutOfBoundsException {
        Contract valued = contractOf(contract);
        long above = share.numberAt(valued, share.price);
        long below = share.belowOf(valued);
        long common = commonDivisor(above, below);
        if (common == 0) {
            return isBelow ? 1 : 0;
        }
        return (isBelow ? below : above) / common;
    }

    /** Returns the mark of a contract. */
    public int mark(int contract) throws IndexOutOfBoundsException {
        return share.markAt(contractOf(contract), share.price);
    }

    /** Returns the same, found by going all ways, each by itself. */
    public int markByWays(int contract) throws IndexOutOfBoundsException {
        Contract marked = contractOf(contract);
        long above = numberByWays(share, marked, share.price, marked.expiry - share.today);
        return thousandTimes(above, share.belowOf(marked));
    }

    /** Returns the first fault of all quotes, 1 to 4; 0, if there is none. */
    public int fault() {
        return firstFault();
    }

    /** Tells of a quote: 0 the bid, 1 the ask, 2 and 3 what is left of their sizes. */
    public int quoted(int contract, int what) throws IndexOutOfBoundsException, IllegalArgumentException {
        Contract asked = contractOf(contract);
        switch (what) {
            case 0:
                return asked.bid;
            case 1:
                return asked.ask;
            case 2:
                return asked.bidLeft;
            case 3:
                return asked.askLeft;
            default:
                throw new IllegalArgumentException("no such part of a quote");
        }
    }

    /** Returns the lots of somebody. */
    public int lots(int holder, int contract) throws IndexOutOfBoundsException {
        int place = placeOf(holder);
        return contractOf(contract).lotsAt(place);
    }

    /** Returns the cash of a customer, or of the house, for NONE. */
    public long cash(int holder) throws IndexOutOfBoundsException {
        return moneyAt(placeOf(holder));
    }

    /** Returns what the house is worth. */
    public long worth() {
        return worthNow();
    }

    /** Returns what the house is worth more by a cause. */
    public long cause(int cause) throws IndexOutOfBoundsException {
        if (cause < 0 || cause >= profits.length) {
            throw new IndexOutOfBoundsException("no such cause");
        }
        return profits[cause];
    }

    /** Returns by how much the house is worth less, at the most, over so many steps of 10 cents. */
    public long worst(int most) throws IllegalArgumentException {
        checkRange(most, 0, MOST_STEPS_OFF);
        long now = worthNow();
        long worst = 0;
        for (int off = -most; off <= most; off++) {
            worst = Math.max(worst, now - worthAt(share.price + STEP_CENTS * off));
        }
        return worst;
    }

    // ---- what the calls have in common

    private static void checkRange(int told, int least, int most) throws IllegalArgumentException {
        if (told < least || told > most) {
            throw new IllegalArgumentException("out of range");
        }
    }

    private static void checkCustomer(int customer) throws IndexOutOfBoundsException {
        if (customer < 0 || customer >= CUSTOMERS) {
            throw new IndexOutOfBoundsException("no such customer");
        }
    }

    private void checkNotOver(Contract contract) throws IllegalStateException {
        if (contract.expiry < share.today) {
            throw new IllegalStateException("the contract is over");
        }
    }

    private static int placeOf(int holder) throws IndexOutOfBoundsException {
        if (holder == NONE) {
            return HOUSE;
        }
        checkCustomer(holder);
        return holder;
    }

    private Contract contractOf(int number) throws IndexOutOfBoundsException {
        if (number < 0 || number >= contracts.size()) {
            throw new IndexOutOfBoundsException("no such contract");
        }
        return contracts.get(number);
    }

    private long moneyAt(int place) {
        return place >= 0 && place < purses.length ? purses[place] : 0;
    }

    private void addMoney(int place, long more) {
        if (place >= 0 && place < purses.length) {
            purses[place] += more;
        }
    }

    private void addProfit(int cause, long more) {
        if (cause >= 0 && cause < profits.length) {
            profits[cause] += more;
        }
    }

    private long worthNow() {
        return worthAt(share.price);
    }

    private long worthAt(int price) {
        long worth = moneyAt(HOUSE) + (long) THOUSAND * price * heldShares;
        for (int i = 0; i < contracts.size(); i++) {
            Contract contract = contracts.get(i);
            int lots = contract.lotsAt(HOUSE);
            // a walk over the lattice is dear, and worth nothing without lots
            if (lots != 0) {
                worth += (long) lots * share.markAt(contract, price);
            }
        }
        return worth;
    }

    private int buy(int customer, Contract contract, int lots, int limit) {
        if (limit < contract.ask) {
            return 0;
        }
        int room = Math.max(0, mostLots + contract.lotsAt(HOUSE));
        int dealt = Math.min(Math.min(lots, contract.askLeft), room);
        deal(customer, contract, dealt, contract.ask);
        contract.askLeft -= dealt;
        return dealt;
    }

    private int sell(int customer, Contract contract, int lots, int limit) {
        if (limit > contract.bid) {
            return 0;
        }
        int room = Math.max(0, mostLots - contract.lotsAt(HOUSE));
        int dealt = Math.min(Math.min(lots, contract.bidLeft), room);
        deal(customer, contract, -dealt, contract.bid);
        contract.bidLeft -= dealt;
        return dealt;
    }

    private void deal(int customer, Contract contract, int lots, int price) {
        contract.addLots(customer, lots);
        contract.addLots(HOUSE, -lots);
        long money = (long) THOUSAND * price * lots;
        addMoney(customer, -money);
        addMoney(HOUSE, money);
    }

    private void exerciseLots(int place, Contract contract, int lots) {
        long money = (long) THOUSAND * contract.paysAt(share.price);
        for (int lot = 0; lot < lots; lot++) {
            int payer = contract.owerOf(lottery.drawOf(contract.owed()));
            contract.addLots(place, -1);
            contract.addLots(payer, 1);
            addMoney(place, money);
            addMoney(payer, -money);
        }
    }

    private void expire(Contract contract) {
        if (contract.paysAt(share.price) > 0) {
            for (int place = 0; place < HOLDERS; place++) {
                if (!contract.hasNotice(place)) {
                    exerciseLots(place, contract, contract.lotsAt(place));
                }
            }
        }
        contract.dropLots();
        contract.takeQuoteAway();
    }

    // ---- numbers

    // Euclid's way: numbers of 63 bits need fewer than 100 rounds
    private static long commonDivisor(long one, long other) {
        long more = one;
        long less = other;
        for (int round = 0; round < 100 && less != 0; round++) {
            long rest = more % less;
            more = less;
            less = rest;
        }
        return more;
    }

    // whole and rest apart: 1000 times the number above would leave a long
    private static int thousandTimes(long above, long below) {
        if (below <= 0) {
            return 0;
        }
        return (int) (above / below * THOUSAND + above % below * THOUSAND / below);
    }

    private static long power(long base, int exponent) {
        long power = 1;
        for (int i = 0; i < exponent; i++) {
            power *= base;
        }
        return power;
    }

    // the number above, of the same part as Share.numberAt tells, but without its row
    private static long numberByWays(Share share, Contract contract, int price, int daysLeft) {
        if (daysLeft < 0 || daysLeft > MOST_AHEAD) {
            return 0;
        }
        int paid = contract.paysAt(price);
        if (daysLeft == 0) {
            return paid;
        }
        int next = price - share.dividendOn(contract.expiry - daysLeft + 1);
        long waited = share.down * numberByWays(share, contract, next + STEP_CENTS * share.up, daysLeft - 1)
                + share.up * numberByWays(share, contract, next - STEP_CENTS * share.down, daysLeft - 1);
        if (!contract.isAmerican) {
            return waited;
        }
        return Math.max(waited, paid * power(share.up + share.down, daysLeft));
    }

    // ---- faults of quotes

    private int firstFault() {
        if (hasCrossedQuote()) {
            return 1;
        }
        if (hasStrikesFault()) {
            return 2;
        }
        if (hasMiddleFault()) {
            return 3;
        }
        return hasExpiriesFault() ? 4 : 0;
    }

    private boolean hasCrossedQuote() {
        for (int i = 0; i < contracts.size(); i++) {
            Contract contract = contracts.get(i);
            if (contract.isQuotedBoth() && contract.bid >= contract.ask) {
                return true;
            }
        }
        return false;
    }

    private boolean hasStrikesFault() {
        for (int i = 0; i < contracts.size(); i++) {
            for (int j = 0; j < contracts.size(); j++) {
                if (isStrikesFault(contracts.get(i), contracts.get(j))) {
                    return true;
                }
            }
        }
        return false;
    }

    private boolean hasMiddleFault() {
        for (int i = 0; i < contracts.size(); i++) {
            for (int j = 0; j < contracts.size(); j++) {
                if (isStrikePair(contracts.get(i), contracts.get(j))
                        && hasMiddleFaultWith(contracts.get(i), contracts.get(j))) {
                    return true;
                }
            }
        }
        return false;
    }

    private boolean hasMiddleFaultWith(Contract lower, Contract middle) {
        for (int i = 0; i < contracts.size(); i++) {
            if (isMiddleFault(lower, middle, contracts.get(i))) {
                return true;
            }
        }
        return false;
    }

    private boolean hasExpiriesFault() {
        for (int i = 0; i < contracts.size(); i++) {
            for (int j = 0; j < contracts.size(); j++) {
                if (isExpiriesFault(contracts.get(i), contracts.get(j))) {
                    return true;
                }
            }
        }
        return false;
    }

    // both quoted, and alike but for the strikes, the first one's being the lower one
    private static boolean isStrikePair(Contract lower, Contract higher) {
        return lower.isQuotedBoth() && higher.isQuotedBoth() && lower.strike < higher.strike
                && lower.kind == higher.kind && lower.expiry == higher.expiry
                && lower.isAmerican == higher.isAmerican;
    }

    private static boolean isStrikesFault(Contract lower, Contract higher) {
        if (!isStrikePair(lower, higher)) {
            return false;
        }
        return lower.kind == CALL ? higher.bid > lower.ask : lower.bid > higher.ask;
    }

    private static boolean isMiddleFault(Contract lower, Contract middle, Contract higher) {
        return isStrikePair(lower, middle) && isStrikePair(middle, higher)
                && middle.strike - lower.strike == higher.strike - middle.strike
                && 2 * middle.bid > lower.ask + higher.ask;
    }

    private static boolean isExpiriesFault(Contract earlier, Contract later) {
        return earlier.isQuotedBoth() && later.isQuotedBoth() && earlier.expiry < later.expiry
                && earlier.isAmerican && later.isAmerican
                && earlier.kind == later.kind && earlier.strike == later.strike
                && earlier.bid > later.ask;
    }

    // ---- the parts of a house

    /** A contract, its quote, and for each holder its lots and its contrary notice. */
    private static final class Contract {
        private final int kind;
        private final int strike;
        private final int expiry;
        private final boolean isAmerican;
        private final int[] held = new int[HOLDERS];
        private final boolean[] notices = new boolean[HOLDERS];
        private int bid = 0;
        private int ask = 0;
        private int bidLeft = 0;
        private int askLeft = 0;

        private Contract(int kind, int strike, int expiry, boolean isAmerican) {
            this.kind = kind;
            this.strike = strike;
            this.expiry = expiry;
            this.isAmerican = isAmerican;
        }

        private int paysAt(int price) {
            return Math.max(0, kind == CALL ? price - strike : strike - price);
        }

        // a size of 0 takes the quote away: then it has no prices any more
        private void tellQuote(int newBid, int newAsk, int size) {
            bid = size > 0 ? newBid : 0;
            ask = size > 0 ? newAsk : 0;
            bidLeft = size;
            askLeft = size;
        }

        private void takeQuoteAway() {
            tellQuote(0, 0, 0);
        }

        // used up is an end of a quote as taken away is: then it has no prices any more
        private void endQuoteUsedUp() {
            if (!hasSomethingLeft()) {
                takeQuoteAway();
            }
        }

        private boolean hasSomethingLeft() {
            return bidLeft > 0 || askLeft > 0;
        }

        private boolean isQuotedBoth() {
            return bidLeft > 0 && askLeft > 0;
        }

        private int lotsAt(int place) {
            return place >= 0 && place < held.length ? held[place] : 0;
        }

        private void addLots(int place, int more) {
            if (place >= 0 && place < held.length) {
                held[place] += more;
            }
        }

        private void dropLots() {
            for (int place = 0; place < held.length; place++) {
                held[place] = 0;
            }
        }

        private boolean hasNotice(int place) {
            return place >= 0 && place < notices.length && notices[place];
        }

        private boolean setNotice(int place, boolean isGiven) {
            if (place < 0 || place >= notices.length || notices[place] == isGiven) {
                return false;
            }
            notices[place] = isGiven;
            return true;
        }

        private int owed() {
            int owed = 0;
            for (int place = 0; place < held.length; place++) {
                owed += Math.max(0, -held[place]);
            }
            return owed;
        }

        // who owes the lot with this number, of all that are owed
        private int owerOf(int pick) {
            int left = pick;
            for (int place = 0; place < held.length; place++) {
                left -= Math.max(0, -held[place]);
                if (left < 0) {
                    return place;
                }
            }
            return HOUSE;
        }
    }

    /** The share: its price, the days, and how it is thought to go on. */
    private static final class Share {
        private final int[] dividends = new int[LAST_DAY + 1];
        // one row for all walks over the lattice, so that asking makes no objects
        private final long[] row = new long[MOST_AHEAD + 1];
        private int price = 10000;
        private int up = 10;
        private int down = 10;
        private int today = 0;

        private int dividendOn(int day) {
            return day >= 0 && day < dividends.length ? dividends[day] : 0;
        }

        private void tellDividend(int day, int cents) {
            if (day >= 0 && day < dividends.length) {
                dividends[day] = cents;
            }
        }

        // the number below of a value that is not in lowest terms yet
        private long belowOf(Contract contract) {
            return power(up + down, Math.min(contract.expiry - today, MOST_AHEAD));
        }

        private int markAt(Contract contract, int from) {
            return thousandTimes(numberAt(contract, from), belowOf(contract));
        }

        // the number above that goes with belowOf, for a price of now; row[n] is of n steps up
        private long numberAt(Contract contract, int from) {
            int days = contract.expiry - today;
            if (days < 0 || days >= row.length) {
                return 0;
            }
            int apart = STEP_CENTS * (up + down);
            int lowest = lowestAfter(days, from);
            for (int ups = 0; ups <= days; ups++) {
                row[ups] = contract.paysAt(lowest + ups * apart);
            }
            long below = 1;
            for (int day = days - 1; day >= 0; day--) {
                lowest += STEP_CENTS * down + dividendOn(today + day + 1);
                below *= up + down;
                for (int ups = 0; ups <= day; ups++) {
                    row[ups] = down * row[ups + 1] + up * row[ups];
                    if (contract.isAmerican) {
                        row[ups] = Math.max(row[ups], below * contract.paysAt(lowest + ups * apart));
                    }
                }
            }
            return row[0];
        }

        private int lowestAfter(int days, int from) {
            int lowest = from;
            for (int day = 1; day <= days; day++) {
                lowest -= STEP_CENTS * down + dividendOn(today + day);
            }
            return lowest;
        }
    }

    /** The draws by which exercised lots are assigned. */
    private static final class Lottery {
        private long state = 0;

        private int drawOf(int count) {
            state = (1103515245L * state + 12345L) % 2147483648L;
            return count > 0 ? (int) (state / 65536L % count) : 0;
        }
    }
}
