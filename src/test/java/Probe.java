/**
 * What is to be known of a house from outside. Each way needs a house of its own, which it uses up,
 * and keeps to fewer than 512 calls with those that made it.
 */
final class Probe {
    static final int WAYS = 3;

    private final Strikehall x;
    private final StringBuilder text = new StringBuilder();
    private final int contracts;

    private Probe(Strikehall x) {
        this.x = x;
        int found = 0;
        while (found < 12 && !isRefused(found)) {
            found++;
        }
        contracts = found;
    }

    private boolean isRefused(int contract) {
        return Check.outcome(() -> x.quoted(contract, 0)).startsWith("throws");
    }

    static String of(int way, Strikehall x) {
        Probe probe = new Probe(x);
        if (way == 0) {
            return Snapshot.of(x, probe.contracts);
        }
        if (way == 1) {
            probe.tellAll();
        } else {
            probe.goOn();
        }
        return probe.text.toString();
    }

    private void add(String call, Check.Call made) {
        text.append(call).append(' ').append(Check.outcome(made)).append('\n');
    }

    /** What calls tell of the state that they replace: the limit, notices, shares, dividends. */
    private void tellAll() {
        add("limit", () -> x.limit(0));
        add("hedge", () -> x.hedge(0, 0));
        for (int c = 0; c < contracts; c++) {
            int contract = c;
            for (int who = 0; who < 6; who++) {
                int customer = who;
                add("contrary", () -> x.contrary(customer, contract, true) ? 1 : 0);
            }
        }
        for (int told = 1; told <= 200; told++) {
            int day = told;
            add("dividend", () -> x.dividend(day, 0));
        }
    }

    /** What shows as the house goes on: contracts and quotes, orders, draws, expiries, the day. */
    private void goOn() {
        add("contract", () -> x.contract(Strikehall.PUT, 10500, 200, false));
        for (int c = 0; c < contracts; c++) {
            int contract = c;
            add("order", () -> x.order(3, contract, 1, 20000));
            add("order", () -> x.order(3, contract, -3, 0));
            for (int who = -1; who < 6; who++) {
                int holder = who;
                add("exercise", () -> x.exercise(holder, contract, 1));
            }
            lotsOf(contract);
        }
        for (int day = 0; day < 11; day++) {
            add("close", x::close);
            add("worth", x::worth);
            add("fault", x::fault);
        }
        for (int who = -1; who < 6; who++) {
            int holder = who;
            add("cash", () -> x.cash(holder));
        }
        for (int c = 0; c < 6; c++) {
            int cause = c;
            add("cause", () -> x.cause(cause));
        }
    }

    private void lotsOf(int contract) {
        for (int who = -1; who < 6; who++) {
            int holder = who;
            add("lots", () -> x.lots(holder, contract));
        }
    }
}
