/** Promise 10, hedge: the ends of its numbers, the most shares, what is refused. */
public final class Promise10Test {
    private static final Promise P = new Promise(10);

    public static void main(String[] args) {
        shares();
        cost();
        returned();
        mostShares();
        fewestShares();
        refused();
        priceOfNow();
        P.end();
    }

    private static void shares() {
        P.says("`shares`: -10000 to 10000: to buy, or, below 0, to sell");
        P.answers("10000", Houses::empty, x -> x.hedge(10000, 1), 10000);
        P.answers("-10000", Houses::empty, x -> x.hedge(-10000, 1), -10000);
        P.answers("0", Houses::empty, x -> x.hedge(0, 1), 0);
        P.refusedEach("shares", Houses::busy, Promise.ARGUMENT, (x, shares) -> x.hedge(shares, 1),
                10001, -10001, Promise.LEAST, Promise.MOST);
    }

    private static void cost() {
        P.says("`cost`: 0 to 10000: for each share, from now on");
        Strikehall x = new Strikehall();
        x.hedge(3, 0);
        P.same("0, worth()", x.worth(), 0);
        x.hedge(3, 10000);
        P.same("10000, worth()", x.worth(), -30000);
        x.hedge(-3, 10000);
        P.same("10000, to sell, worth()", x.worth(), -60000);
        x.hedge(0, 10000);
        P.same("10000, for no share, worth()", x.worth(), -60000);
        x.hedge(3, 1);
        P.same("1, worth()", x.worth(), -60003);
        P.refusedEach("cost", Houses::busy, Promise.ARGUMENT, (h, cost) -> h.hedge(1, cost),
                -1, 10001, Promise.LEAST, Promise.MOST);
        P.refusedEach("cost, for no share", Houses::busy, Promise.ARGUMENT, (h, cost) -> h.hedge(0, cost),
                -1, 10001, Promise.LEAST, Promise.MOST);
    }

    private static void returned() {
        P.says("`int hedge(int shares, int cost) throws IllegalArgumentException`: Trades shares for the house.");
        P.says("Returns how many it has then.");
        Strikehall x = new Strikehall();
        P.same("hedge(5, 0)", x.hedge(5, 0), 5);
        P.same("hedge(-5, 0)", x.hedge(-5, 0), 0);
        P.same("hedge(-1, 0)", x.hedge(-1, 0), -1);
        P.same("hedge(0, 0)", x.hedge(0, 0), -1);
        P.same("hedge(1, 0)", x.hedge(1, 0), 0);
    }

    private static Strikehall holding(int shares) {
        Strikehall x = Houses.busy();
        int held = x.hedge(0, 0);
        while (held != shares) {
            held = x.hedge(Math.max(-10000, Math.min(10000, shares - held)), 1);
        }
        return x;
    }

    private static void mostShares() {
        P.says("or it would have more than 100000");
        P.answers("99999 and 1", () -> holding(99999), x -> x.hedge(1, 1), 100000);
        P.answers("90000 and 10000", () -> holding(90000), x -> x.hedge(10000, 1), 100000);
        P.answers("100000 and none", () -> holding(100000), x -> x.hedge(0, 1), 100000);
        P.answers("100000, 10000 less", () -> holding(100000), x -> x.hedge(-10000, 1), 90000);
        P.refused("100000 and 1", () -> holding(100000), Promise.ARGUMENT, x -> x.hedge(1, 1));
        P.refused("90001 and 10000", () -> holding(90001), Promise.ARGUMENT, x -> x.hedge(10000, 1));
        P.refused("100000 and 10000", () -> holding(100000), Promise.ARGUMENT, x -> x.hedge(10000, 1));
        P.refused("100000 and the most", () -> holding(100000), Promise.ARGUMENT, x -> x.hedge(Promise.MOST, 1));
    }

    private static void fewestShares() {
        P.says("or fewer than -100000");
        P.answers("-99999, 1 less", () -> holding(-99999), x -> x.hedge(-1, 1), -100000);
        P.answers("-90000, 10000 less", () -> holding(-90000), x -> x.hedge(-10000, 1), -100000);
        P.answers("-100000 and 10000", () -> holding(-100000), x -> x.hedge(10000, 1), -90000);
        P.refused("-100000, 1 less", () -> holding(-100000), Promise.ARGUMENT, x -> x.hedge(-1, 1));
        P.refused("-90001, 10000 less", () -> holding(-90001), Promise.ARGUMENT, x -> x.hedge(-10000, 1));
        P.refused("-100000 and the least", () -> holding(-100000), Promise.ARGUMENT, x -> x.hedge(Promise.LEAST, 1));
    }

    private static void refused() {
        P.says("Throws `IllegalArgumentException` if shares or cost is out of range, or it would have more than 100000, "
                + "or fewer than -100000");
        P.refused("both", Houses::busy, Promise.ARGUMENT, x -> x.hedge(10001, -1));
        P.refused("too many, cost besides", () -> holding(100000), Promise.ARGUMENT, x -> x.hedge(1, 10001));
    }

    private static void priceOfNow() {
        P.says("The house can buy or sell shares, at the price of now, 1000 times for each");
        Strikehall x = new Strikehall();
        x.move(20000);
        x.hedge(10000, 10000);
        P.same("10000 at 20000, cash(NONE)", x.cash(-1), -200000000000L - 100000000L);
        P.same("cause(3)", x.cause(3), -100000000L);
        x.move(0);
        x.hedge(-10000, 10000);
        P.same("10000 sold at 0, cash(NONE)", x.cash(-1), -200000000000L - 200000000L);
        P.same("cause(3)", x.cause(3), -200000000L);
        P.same("worth()", x.worth(), -200200000000L);
    }
}
