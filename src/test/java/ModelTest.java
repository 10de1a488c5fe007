/** All promises: long runs of calls, each beside the model; an exception is an answer too. */
public final class ModelTest {
    private static final int RUNS = 150;
    private static final int CALLS = 400;
    private static final int[] FAR = {Integer.MIN_VALUE, -1000000, -2, -1, 201, 1000000, Integer.MAX_VALUE};
    private static final Check CHECK = new Check();

    private long state;
    private final Strikehall house = new Strikehall();
    private final Model model = new Model();
    // a run keeps to few contracts, near prices, and steps of its own, so that much happens
    private final int spread;
    private final boolean isWild;

    private ModelTest(int run) {
        state = run * 7919L + 1;
        spread = 5 + pick(400);
        isWild = run % 4 == 0;
    }

    public static void main(String[] args) {
        for (int run = 0; run < RUNS; run++) {
            ModelTest test = new ModelTest(run);
            for (int call = 0; call < CALLS; call++) {
                test.call("run " + run + ", call " + call + ": ");
            }
            test.compareAll("run " + run + ", at its end: ");
        }
        for (int run = 0; run < RUNS; run++) {
            new ModelTest(run).quotesNearFaults("quotes, run " + run + ": ");
        }
        CHECK.end("ModelTest");
    }

    private int pick(int of) {
        state = state * 6364136223846793005L + 1442695040888963407L;
        return (int) ((state >>> 33) % of);
    }

    /** Between the ends; now and then just beyond them, or far away. */
    private int number(int least, int most) {
        int chance = pick(120);
        if (chance == 0) {
            return least - 1;
        }
        if (chance == 1) {
            return most + 1;
        }
        if (chance == 2) {
            return FAR[pick(FAR.length)];
        }
        return chance < 6 ? least : chance < 10 ? most : least + pick(most - least + 1);
    }

    private int price() {
        return pick(20) == 0 ? number(0, 20000) : number(Math.max(0, 10000 - 2 * spread), 10000 + 2 * spread);
    }

    private int known() {
        return number(0, Math.max(0, model.options.size() - 1));
    }

    private int premium(int contract, boolean isAsk) {
        if (contract < 0 || contract >= model.options.size() || pick(15) == 0) {
            return number(0, pick(3) == 0 ? 20000 : 500);
        }
        int fair = model.mark(contract) / 1000;
        return Math.min(20000, Math.max(0, fair + (isAsk ? 1 : -1) * (pick(16) - 4)));
    }

    private static long flag(boolean is) {
        return is ? 1 : 0;
    }

    private void same(String call, Check.Call program, Check.Call due) {
        CHECK.same(call, Check.outcome(program), Check.outcome(due));
    }

    private void call(String at) {
        int kind = pick(100);
        if (kind < 14) {
            tell(at);
        } else if (kind < 22) {
            contract(at);
        } else if (kind < 42) {
            quote(at);
        } else if (kind < 72) {
            order(at);
        } else if (kind < 80) {
            exercise(at);
        } else if (kind < 92) {
            house(at);
        } else {
            ask(at);
        }
        if (pick(12) == 0) {
            compareAll(at);
        }
    }

    private void tell(String at) {
        int up = number(1, isWild ? 10 : 3);
        int down = number(1, isWild ? 10 : 3);
        int day = model.today + number(1, 10);
        int cents = number(0, isWild ? 1000 : 40);
        int price = price();
        switch (pick(3)) {
            case 0:
                same(at + "steps(" + up + ", " + down + ")", () -> { house.steps(up, down); return 0; },
                        () -> { model.steps(up, down); return 0; });
                break;
            case 1:
                same(at + "move(" + price + ")", () -> house.move(price), () -> model.move(price));
                break;
            default:
                same(at + "dividend(" + day + ", " + cents + ")", () -> house.dividend(day, cents),
                        () -> model.dividend(day, cents));
        }
    }

    private void contract(String at) {
        int kind = number(0, 1);
        int strike = isWild ? number(0, 20000) : 10000 + spread / 2 * (pick(5) - 2);
        int expiry = model.today + number(0, pick(2) == 0 ? 2 : 10);
        boolean isAmerican = pick(3) > 0;
        same(at + "contract(" + kind + ", " + strike + ", " + expiry + ", " + isAmerican + ")",
                () -> house.contract(kind, strike, expiry, isAmerican),
                () -> model.contract(kind, strike, expiry, isAmerican));
    }

    private void quote(String at) {
        int contract = known();
        int bid = premium(contract, false);
        int ask = premium(contract, true);
        int size = pick(3) == 0 ? number(0, 100) : pick(8);
        same(at + "quote(" + contract + ", " + bid + ", " + ask + ", " + size + ")",
                () -> house.quote(contract, bid, ask, size), () -> model.quote(contract, bid, ask, size));
    }

    private void order(String at) {
        int customer = number(0, 5);
        int contract = known();
        int lots = pick(2) == 0 ? number(-100, 100) : number(-9, 9);
        boolean isQuoted = contract >= 0 && contract < model.options.size() && pick(4) > 0;
        int limit = isQuoted ? model.quoted(contract, lots > 0 ? 1 : 0) + (lots > 0 ? 1 : -1) * (pick(9) - 1) : price();
        same(at + "order(" + customer + ", " + contract + ", " + lots + ", " + limit + ")",
                () -> house.order(customer, contract, lots, limit), () -> model.order(customer, contract, lots, limit));
    }

    private void exercise(String at) {
        int holder = number(-1, 5);
        int contract = known();
        int lots = pick(3) == 0 ? number(1, 1000) : number(1, 4);
        boolean isGiven = pick(3) > 0;
        if (pick(3) > 0) {
            same(at + "exercise(" + holder + ", " + contract + ", " + lots + ")",
                    () -> house.exercise(holder, contract, lots), () -> model.exercise(holder, contract, lots));
        } else {
            same(at + "contrary(" + holder + ", " + contract + ", " + isGiven + ")",
                    () -> flag(house.contrary(holder, contract, isGiven)),
                    () -> flag(model.contrary(holder, contract, isGiven)));
        }
    }

    private void house(String at) {
        int shares = number(-10000, 10000);
        int cost = number(0, 10000);
        int seed = number(0, Integer.MAX_VALUE - 1);
        int lots = pick(4) == 0 ? number(0, 1000) : number(0, 60);
        switch (pick(7)) {
            case 0:
            case 1:
                same(at + "hedge(" + shares + ", " + cost + ")", () -> house.hedge(shares, cost),
                        () -> model.hedge(shares, cost));
                break;
            case 2:
                same(at + "seed(" + seed + ")", () -> { house.seed(seed); return 0; },
                        () -> { model.seed(seed); return 0; });
                break;
            case 3:
                same(at + "limit(" + lots + ")", () -> house.limit(lots), () -> model.limit(lots));
                break;
            case 4:
                same(at + "kill()", house::kill, model::kill);
                break;
            default:
                same(at + "close()", house::close, model::close);
        }
    }

    private void ask(String at) {
        int contract = known();
        int holder = number(-1, 5);
        int cause = number(0, 5);
        int what = number(0, 3);
        int most = pick(6) == 0 ? number(0, 100) : number(0, 12);
        same(at + "value above", () -> house.value(contract, false), () -> model.value(contract, false));
        same(at + "value below", () -> house.value(contract, true), () -> model.value(contract, true));
        same(at + "mark", () -> house.mark(contract), () -> model.mark(contract));
        same(at + "markByWays", () -> house.markByWays(contract), () -> model.mark(contract));
        same(at + "quoted", () -> house.quoted(contract, what), () -> model.quoted(contract, what));
        same(at + "lots", () -> house.lots(holder, contract), () -> model.lots(holder, contract));
        same(at + "cash", () -> house.cash(holder), () -> model.cash(holder));
        same(at + "cause", () -> house.cause(cause), () -> model.cause(cause));
        same(at + "worst(" + most + ")", () -> house.worst(most), () -> model.worst(most));
    }

    private void compareAll(String at) {
        for (int c = 0; c < model.options.size(); c++) {
            CHECK.same(at + "mark(" + c + ")", house.mark(c), model.mark(c));
            CHECK.same(at + "markByWays(" + c + ")", house.markByWays(c), model.mark(c));
            for (int what = 0; what < 4; what++) {
                CHECK.same(at + "quoted(" + c + ", " + what + ")", house.quoted(c, what), model.quoted(c, what));
            }
            long all = 0;
            for (int holder = -1; holder < 6; holder++) {
                CHECK.same(at + "lots(" + holder + ", " + c + ")", house.lots(holder, c), model.lots(holder, c));
                all += house.lots(holder, c);
            }
            CHECK.same(at + "all lots of " + c, all, 0);
        }
        for (int holder = -1; holder < 6; holder++) {
            CHECK.same(at + "cash(" + holder + ")", house.cash(holder), model.cash(holder));
        }
        long all = 0;
        for (int cause = 0; cause < 6; cause++) {
            CHECK.same(at + "cause(" + cause + ")", house.cause(cause), model.cause(cause));
            all += house.cause(cause);
        }
        CHECK.same(at + "worth()", house.worth(), model.worth());
        CHECK.same(at + "all causes", all, house.worth());
        CHECK.same(at + "fault()", house.fault(), model.fault());
    }

    /** Contracts much alike, quoted closely, so that each fault is near without those ahead of it. */
    private void quotesNearFaults(String at) {
        int[] steps = new int[12];
        int slope = pick(4);
        for (int c = 0; c < 12; c++) {
            int kind = pick(8) / 7;
            int expiry = 2 + pick(6) / 5;
            boolean isAmerican = pick(6) > 0;
            steps[c] = kind == 0 ? pick(5) : 4 - pick(5);
            int strike = 10000 + 10 * steps[c];
            steps[c] = kind == 0 ? 4 - steps[c] : steps[c];
            same(at + "contract", () -> house.contract(kind, strike, expiry, isAmerican),
                    () -> model.contract(kind, strike, expiry, isAmerican));
        }
        for (int call = 0; call < 300; call++) {
            int contract = pick(12);
            int bid = slope * steps[contract] + pick(3);
            int ask = bid + (pick(200) == 0 ? 0 : 1 + pick(2));
            int size = pick(3);
            same(at + "call " + call, () -> house.quote(contract, bid, ask, size),
                    () -> model.quote(contract, bid, ask, size));
        }
    }
}
