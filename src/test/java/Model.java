import java.math.BigInteger;
import java.util.ArrayList;
import java.util.HashMap;
import java.util.List;
import java.util.Map;

/** The document once more, slowly and in other ways than the program's, to set beside it. */
final class Model {
    static final class Option {
        int kind;
        int strike;
        int expiry;
        boolean american;
        int[] quote = {0, 0, 0, 0};
        Map<Integer, Integer> lots = new HashMap<>();
        Map<Integer, Boolean> notices = new HashMap<>();

        int lotsOf(int holder) {
            return lots.getOrDefault(holder, 0);
        }

        long pays(long price) {
            return Math.max(0, kind == 0 ? price - strike : strike - price);
        }

        boolean live() {
            return quote[2] > 0 && quote[3] > 0;
        }

        boolean alike(Option other, boolean butStrike, boolean butExpiry) {
            return kind == other.kind && american == other.american
                    && (butStrike || strike == other.strike) && (butExpiry || expiry == other.expiry);
        }
    }

    /** A part: above and below, in lowest terms. */
    record Part(BigInteger above, BigInteger below) {
        static Part of(BigInteger above, BigInteger below) {
            BigInteger common = above.gcd(below);
            return new Part(above.divide(common), below.divide(common));
        }

        static Part whole(long number) {
            return new Part(BigInteger.valueOf(number), BigInteger.ONE);
        }

        boolean less(Part other) {
            return above.multiply(other.below).compareTo(other.above.multiply(below)) < 0;
        }

        /** (one times this, and two times other) divided by both. */
        Part mixed(int one, Part other, int two) {
            BigInteger left = above.multiply(other.below).multiply(BigInteger.valueOf(one));
            BigInteger right = other.above.multiply(below).multiply(BigInteger.valueOf(two));
            return of(left.add(right), below.multiply(other.below).multiply(BigInteger.valueOf(one + two)));
        }
    }

    int price = 10000;
    int up = 10;
    int down = 10;
    int today = 0;
    int limit = 100;
    int shares = 0;
    long seed = 0;
    final Map<Integer, Integer> dividends = new HashMap<>();
    final List<Option> options = new ArrayList<>();
    final Map<Integer, Long> cash = new HashMap<>();
    final long[] causes = new long[6];

    private static void need(boolean holds, RuntimeException otherwise) {
        if (!holds) {
            throw otherwise;
        }
    }

    private static void argument(boolean holds) {
        need(holds, new IllegalArgumentException());
    }

    private static void state(boolean holds) {
        need(holds, new IllegalStateException());
    }

    private Option option(int number) {
        need(number >= 0 && number < options.size(), new IndexOutOfBoundsException());
        return options.get(number);
    }

    private static void customer(int number) {
        need(number >= 0 && number <= 5, new IndexOutOfBoundsException());
    }

    private static void holder(int number) {
        need(number >= -1 && number <= 5, new IndexOutOfBoundsException());
    }

    private boolean over(Option option) {
        return option.expiry < today;
    }

    private void pay(int from, int to, long money) {
        cash.merge(from, -money, Long::sum);
        cash.merge(to, money, Long::sum);
    }

    private Part part(Option option, int at, long from, Map<String, Part> known) {
        String key = at + ":" + from;
        Part found = known.get(key);
        if (found == null) {
            found = partAnew(option, at, from, known);
            known.put(key, found);
        }
        return found;
    }

    private Part partAnew(Option option, int at, long from, Map<String, Part> known) {
        Part paid = Part.whole(option.pays(from));
        if (at == option.expiry) {
            return paid;
        }
        long gone = dividends.getOrDefault(at + 1, 0);
        Part higher = part(option, at + 1, from + 10L * up - gone, known);
        Part lower = part(option, at + 1, from - 10L * down - gone, known);
        Part waited = higher.mixed(down, lower, up);
        return option.american && waited.less(paid) ? paid : waited;
    }

    private Part partOf(Option option, long from) {
        return over(option) ? Part.whole(0) : part(option, today, from, new HashMap<>());
    }

    private long markOf(Option option, long from) {
        Part part = partOf(option, from);
        return part.above.multiply(BigInteger.valueOf(1000)).divide(part.below).longValueExact();
    }

    private long worthAt(long from) {
        long worth = cash.getOrDefault(-1, 0L) + 1000L * shares * from;
        for (Option option : options) {
            if (option.lotsOf(-1) != 0) {
                worth += option.lotsOf(-1) * markOf(option, from);
            }
        }
        return worth;
    }

    void steps(int newUp, int newDown) {
        argument(newUp >= 1 && newUp <= 10 && newDown >= 1 && newDown <= 10);
        long before = worth();
        up = newUp;
        down = newDown;
        causes[5] += worth() - before;
    }

    long move(int newPrice) {
        argument(newPrice >= 0 && newPrice <= 20000);
        long before = worth();
        price = newPrice;
        causes[1] += worth() - before;
        return worth() - before;
    }

    int dividend(int day, int cents) {
        argument(day > today && day <= 200 && cents >= 0 && cents <= 1000);
        long before = worth();
        Integer former = dividends.put(day, cents);
        causes[5] += worth() - before;
        return former == null ? 0 : former;
    }

    int contract(int kind, int strike, int expiry, boolean american) {
        argument((kind == 0 || kind == 1) && strike >= 0 && strike <= 20000);
        argument(expiry >= today && (long) expiry <= today + 10L && expiry <= 200);
        state(options.size() < 12);
        Option made = new Option();
        made.kind = kind;
        made.strike = strike;
        made.expiry = expiry;
        made.american = american;
        options.add(made);
        return options.size() - 1;
    }

    int quote(int contract, int bid, int ask, int size) {
        Option option = option(contract);
        argument(bid >= 0 && bid <= 20000 && ask >= 0 && ask <= 20000 && size >= 0 && size <= 100);
        state(!over(option));
        option.quote = size == 0 ? new int[4] : new int[] {bid, ask, size, size};
        return fault();
    }

    int kill() {
        int killed = 0;
        for (Option option : options) {
            killed += option.quote[2] + option.quote[3] > 0 ? 1 : 0;
            option.quote = new int[4];
        }
        return killed;
    }

    int limit(int lots) {
        argument(lots >= 0 && lots <= 1000);
        int former = limit;
        limit = lots;
        return former;
    }

    int order(int customer, int contract, int lots, int at) {
        customer(customer);
        Option option = option(contract);
        argument(lots != 0 && lots >= -100 && lots <= 100 && at >= 0 && at <= 20000);
        state(!over(option));
        long before = worth();
        int side = lots > 0 ? 3 : 2;
        int sign = lots > 0 ? 1 : -1;
        int asked = lots > 0 ? option.quote[1] : option.quote[0];
        boolean suits = lots > 0 ? at >= asked : at <= asked;
        int dealt = 0;
        // lot by lot, as far as each is let
        while (suits && dealt < Math.abs(lots) && option.quote[side] > 0) {
            int now = option.lotsOf(-1);
            int then = now - sign;
            if (Math.abs(then) > limit && Math.abs(then) >= Math.abs(now)) {
                break;
            }
            option.lots.put(-1, then);
            option.lots.merge(customer, sign, Integer::sum);
            option.quote[side]--;
            pay(customer, -1, 1000L * asked * sign);
            dealt++;
        }
        if (option.quote[2] + option.quote[3] == 0) {
            option.quote = new int[4];
        }
        causes[0] += worth() - before;
        return dealt;
    }

    int hedge(int traded, int cost) {
        argument(traded >= -10000 && traded <= 10000 && cost >= 0 && cost <= 10000);
        argument(Math.abs(shares + traded) <= 100000);
        long before = worth();
        shares += traded;
        cash.merge(-1, -1000L * price * traded - (long) cost * Math.abs(traded), Long::sum);
        causes[3] += worth() - before;
        return shares;
    }

    void seed(int newSeed) {
        argument(newSeed >= 0);
        seed = newSeed;
    }

    private int draw(int of) {
        seed = BigInteger.valueOf(1103515245).multiply(BigInteger.valueOf(seed)).add(BigInteger.valueOf(12345))
                .mod(BigInteger.TWO.pow(31)).longValueExact();
        return (int) (seed / 65536 % of);
    }

    private void exerciseOne(int holder, Option option) {
        List<Integer> owing = new ArrayList<>();
        for (int who : new int[] {0, 1, 2, 3, 4, 5, -1}) {
            for (int lot = option.lotsOf(who); lot < 0; lot++) {
                owing.add(who);
            }
        }
        int payer = owing.get(draw(owing.size()));
        option.lots.merge(holder, -1, Integer::sum);
        option.lots.merge(payer, 1, Integer::sum);
        pay(payer, holder, 1000 * option.pays(price));
    }

    int exercise(int holder, int contract, int lots) {
        holder(holder);
        Option option = option(contract);
        argument(lots >= 1 && lots <= 1000);
        state(option.lotsOf(holder) >= lots && !over(option));
        state(option.american || option.expiry == today);
        long before = worth();
        for (int lot = 0; lot < lots; lot++) {
            exerciseOne(holder, option);
        }
        causes[4] += worth() - before;
        return (int) option.pays(price);
    }

    boolean contrary(int customer, int contract, boolean given) {
        customer(customer);
        Option option = option(contract);
        state(!over(option));
        Boolean former = option.notices.put(customer, given);
        return (former != null && former) != given;
    }

    int close() {
        state(today < 200);
        long before = worth();
        for (Option option : options) {
            if (option.expiry == today) {
                expire(option);
            }
        }
        long between = worth();
        today++;
        causes[4] += between - before;
        causes[2] += worth() - between;
        return today;
    }

    private void expire(Option option) {
        for (int holder : new int[] {0, 1, 2, 3, 4, 5, -1}) {
            boolean willing = !option.notices.getOrDefault(holder, false);
            while (willing && option.pays(price) > 0 && option.lotsOf(holder) > 0) {
                exerciseOne(holder, option);
            }
        }
        option.lots.clear();
        option.quote = new int[4];
    }

    long value(int contract, boolean below) {
        Part part = partOf(option(contract), price);
        return (below ? part.below : part.above).longValueExact();
    }

    int mark(int contract) {
        return (int) markOf(option(contract), price);
    }

    int fault() {
        int first = 5;
        for (Option one : options) {
            first = Math.min(first, one.live() && one.quote[0] >= one.quote[1] ? 1 : 5);
            for (Option two : options) {
                first = Math.min(first, one.live() && two.live() ? faultOf(one, two) : 5);
            }
        }
        return first == 5 ? 0 : first;
    }

    private int faultOf(Option one, Option two) {
        boolean dearer = one.quote[0] > two.quote[1];
        boolean strikesSo = one.kind == 0 ? one.strike > two.strike : one.strike < two.strike;
        if (dearer && strikesSo && one.alike(two, true, false)) {
            return 2;
        }
        for (Option middle : options) {
            if (one.strike < two.strike && 2 * middle.strike == one.strike + two.strike && middle.live()
                    && middle.alike(one, true, false) && middle.alike(two, true, false)
                    && 2 * middle.quote[0] > one.quote[1] + two.quote[1]) {
                return 3;
            }
        }
        return dearer && one.american && one.expiry < two.expiry && one.alike(two, false, true) ? 4 : 5;
    }

    int quoted(int contract, int what) {
        Option option = option(contract);
        argument(what >= 0 && what <= 3);
        return option.quote[what];
    }

    int lots(int holder, int contract) {
        holder(holder);
        return option(contract).lotsOf(holder);
    }

    long cash(int holder) {
        holder(holder);
        return cash.getOrDefault(holder, 0L);
    }

    long worth() {
        return worthAt(price);
    }

    long cause(int cause) {
        need(cause >= 0 && cause <= 5, new IndexOutOfBoundsException());
        return causes[cause];
    }

    long worst(int most) {
        argument(most >= 0 && most <= 100);
        long least = worth();
        for (int off = 1; off <= most; off++) {
            least = Math.min(least, Math.min(worthAt(price + 10L * off), worthAt(price - 10L * off)));
        }
        return worth() - least;
    }
}
