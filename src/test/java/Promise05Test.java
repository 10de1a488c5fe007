/** Promise 5, contract: the ends of kind, strike and expiry, the most contracts, what comes first. */
public final class Promise05Test {
    private static final Promise P = new Promise(5);

    public static void main(String[] args) {
        kind();
        strike();
        expiry();
        expiryAsDaysGo();
        expiryOnTheLastDays();
        american();
        numbers();
        refusedArguments();
        refusedThirteenth();
        P.end();
    }

    private static void kind() {
        P.says("`kind`: CALL or PUT");
        Strikehall x = new Strikehall();
        x.contract(0, 9990, 0, false);
        x.contract(1, 9990, 0, false);
        P.same("0 is a CALL, mark", x.mark(0), 10000);
        P.same("1 is a PUT, mark", x.mark(1), 0);
        x.move(9980);
        P.same("0 is a CALL, mark", x.mark(0), 0);
        P.same("1 is a PUT, mark", x.mark(1), 10000);
        P.refusedEach("kind", Houses::busy, Promise.ARGUMENT, (h, kind) -> h.contract(kind, 10000, 5, true),
                -1, 2, Promise.LEAST, Promise.MOST);
    }

    private static void strike() {
        P.says("`strike`: 0 to 20000");
        Strikehall x = new Strikehall();
        x.contract(Strikehall.CALL, 0, 0, false);
        x.contract(Strikehall.PUT, 20000, 0, false);
        P.same("0, mark", x.mark(0), 10000000);
        P.same("20000, mark", x.mark(1), 10000000);
        P.refusedEach("strike", Houses::busy, Promise.ARGUMENT, (h, strike) -> h.contract(0, strike, 5, true),
                -1, 20001, Promise.LEAST, Promise.MOST);
    }

    private static void expiry() {
        P.says("`expiry`: today to today and 10, at most 200");
        P.answers("day 0, of 0", Houses::empty, x -> x.contract(0, 0, 0, true), 0);
        P.answers("day 0, of 10", Houses::empty, x -> x.contract(0, 0, 10, true), 0);
        P.refusedEach("day 0, expiry", Houses::empty, Promise.ARGUMENT, (x, day) -> x.contract(0, 0, day, true),
                -1, 11, 200, Promise.LEAST, Promise.MOST);
    }

    private static void expiryAsDaysGo() {
        P.says("an expiry, today to 10 days behind, as it is made");
        P.answers("day 1, of 1", Houses::busy, x -> x.contract(0, 0, 1, true), Houses.BUSY_CONTRACTS);
        P.answers("day 1, of 11", Houses::busy, x -> x.contract(0, 0, 11, true), Houses.BUSY_CONTRACTS);
        P.refusedEach("day 1, expiry", Houses::busy, Promise.ARGUMENT, (x, day) -> x.contract(0, 0, day, true),
                0, 12, -1, Promise.LEAST, Promise.MOST);
    }

    private static void expiryOnTheLastDays() {
        P.says("at most 200");
        P.answers("day 189, of 199", () -> Houses.onDay(189), x -> x.contract(0, 0, 199, true), 0);
        P.answers("day 190, of 200", () -> Houses.onDay(190), x -> x.contract(0, 0, 200, true), 0);
        P.answers("day 191, of 200", () -> Houses.onDay(191), x -> x.contract(0, 0, 200, true), 0);
        P.answers("day 200, of 200", () -> Houses.onDay(200), x -> x.contract(0, 0, 200, true), 0);
        P.refusedEach("day 189, expiry", () -> Houses.onDay(189), Promise.ARGUMENT,
                (x, day) -> x.contract(0, 0, day, true), 188, 200);
        P.refusedEach("day 190, expiry", () -> Houses.onDay(190), Promise.ARGUMENT,
                (x, day) -> x.contract(0, 0, day, true), 189, 201);
        P.refusedEach("day 191, expiry", () -> Houses.onDay(191), Promise.ARGUMENT,
                (x, day) -> x.contract(0, 0, day, true), 190, 201);
        P.refusedEach("day 200, expiry", () -> Houses.onDay(200), Promise.ARGUMENT,
                (x, day) -> x.contract(0, 0, day, true), 199, 201, 210);
    }

    private static void american() {
        P.says("`isAmerican`: whether it is AMERICAN");
        Strikehall x = new Strikehall();
        x.dividend(1, 1000);
        x.contract(Strikehall.CALL, 9000, 1, true);
        x.contract(Strikehall.CALL, 9000, 1, false);
        P.same("it is, mark", x.mark(0), 1000000);
        // up it pays 100, down nothing
        P.same("it is not, mark", x.mark(1), 50000);
    }

    private static void numbers() {
        P.says("Returns its number.");
        P.says("Contracts are numbered from 0, at most 12");
        Strikehall x = new Strikehall();
        for (int number = 0; number < 12; number++) {
            P.same("contract " + number, x.contract(0, 100 * number, 0, false), number);
            P.same("its mark", x.mark(number), 10000000 - 100000 * number);
            int next = number + 1;
            P.same("the next one is not there", Check.outcome(() -> x.mark(next)).equals("throws.IndexOutOfBoundsException") ? 1 : 0, 1);
        }
        P.same("the first one is as it was", x.mark(0), 10000000);
    }

    private static void refusedArguments() {
        P.says("Throws `IllegalArgumentException` if kind, strike or expiry is out of range");
        P.refused("there are 12, kind", Houses::full, Promise.ARGUMENT, x -> x.contract(2, 0, 0, true));
        P.refused("there are 12, kind", Houses::full, Promise.ARGUMENT, x -> x.contract(-1, 0, 0, true));
        P.refused("there are 12, strike", Houses::full, Promise.ARGUMENT, x -> x.contract(0, 20001, 0, true));
        P.refused("there are 12, strike", Houses::full, Promise.ARGUMENT, x -> x.contract(0, -1, 0, true));
        P.refused("there are 12, expiry", Houses::full, Promise.ARGUMENT, x -> x.contract(0, 0, 11, true));
        P.refused("there are 12, expiry", Houses::full, Promise.ARGUMENT, x -> x.contract(0, 0, -1, true));
        P.refused("all of them", Houses::busy, Promise.ARGUMENT, x -> x.contract(2, -1, 0, true));
    }

    private static void refusedThirteenth() {
        P.says("Throws `IllegalStateException` if there are 12");
        P.says("`int contract(int kind, int strike, int expiry, boolean isAmerican) throws IllegalArgumentException, "
                + "IllegalStateException`: Makes a contract.");
        P.refused("a CALL", Houses::full, Promise.STATE, x -> x.contract(0, 0, 0, false));
        P.refused("a PUT", Houses::full, Promise.STATE, x -> x.contract(1, 20000, 10, true));
        Houses.Setup allOver = () -> {
            Strikehall x = Houses.full();
            for (int day = 0; day < 11; day++) {
                x.close();
            }
            return x;
        };
        P.refused("all 12 are over", allOver, Promise.STATE, x -> x.contract(0, 0, 11, false));
    }
}
