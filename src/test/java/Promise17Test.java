/** Promise 17, markByWays: no way to go, the most ways, one that is over, what is refused. */
public final class Promise17Test {
    private static final Promise P = new Promise(17);

    public static void main(String[] args) {
        refused();
        roundedDown();
        mostWays();
        over();
        sameAsMark();
        P.end();
    }

    private static void refused() {
        P.says("Returns the same, found by going all ways, each by itself. "
                + "@throws IndexOutOfBoundsException if there is no such contract");
        P.answers("the first of 12", Houses::full, x -> x.markByWays(0), 1000000);
        P.answers("the last of 12", Houses::full, x -> x.markByWays(11), 100000);
        P.refusedEach("contract", Houses::busy, Promise.INDEX, (x, c) -> x.markByWays(c),
                -1, Houses.BUSY_CONTRACTS, Promise.LEAST, Promise.MOST);
        P.refusedEach("contract, of 12", Houses::full, Promise.INDEX, (x, c) -> x.markByWays(c), -1, 12);
        P.refusedEach("contract, of none", Houses::empty, Promise.INDEX, (x, c) -> x.markByWays(c), 0);
    }

    private static void roundedDown() {
        P.says("Its mark is 1000 times its value, rounded down.");
        Strikehall x = new Strikehall();
        x.contract(Strikehall.CALL, 10000, 1, false);
        x.contract(Strikehall.CALL, 10999, 10, false);
        x.contract(Strikehall.CALL, 9999, 0, false);
        x.steps(1, 2);
        P.same("20 of 3", x.markByWays(0), 6666);
        P.same("no way to go", x.markByWays(2), 1000);
        x.steps(10, 10);
        P.same("1 of 1024", x.markByWays(1), 0);
        x.move(10001);
        P.same("2 of 1024", x.markByWays(1), 1);
    }

    private static void mostWays() {
        P.says("an expiry, today to 10 days behind, as it is made");
        Strikehall x = new Strikehall();
        x.contract(Strikehall.PUT, 20000, 10, true);
        x.contract(Strikehall.PUT, 10999, 10, false);
        x.steps(10, 9);
        for (int day = 1; day <= 10; day++) {
            x.dividend(day, 1000);
        }
        P.same("a PUT of 20000 at 10000, dividends of 10000", x.markByWays(0), 20000000);
        x.move(0);
        P.same("a PUT of 20000 at 0, dividends of 10000", x.markByWays(0), 30000000);
        x.move(20000);
        P.same("a PUT of 10999 at 20000, dividends of 10000", x.markByWays(1), 999000);
    }

    private static void over() {
        P.says("its value and mark are 0 then");
        Strikehall x = new Strikehall();
        x.contract(Strikehall.CALL, 9000, 1, true);
        x.close();
        P.same("on its expiry", x.markByWays(0), 1000000);
        x.close();
        P.same("behind it", x.markByWays(0), 0);
        for (int day = 2; day < 13; day++) {
            x.close();
        }
        P.same("more than 10 days behind it", x.markByWays(0), 0);
    }

    private static void sameAsMark() {
        P.says("Returns the same");
        Strikehall x = new Strikehall();
        for (int c = 0; c < 12; c++) {
            x.contract(c % 2, 9850 + 30 * c, c % 11, c % 3 > 0);
        }
        x.dividend(2, 35);
        x.dividend(7, 4);
        for (int day = 0; day < 12; day++) {
            x.steps(1 + day % 10, 10 - day % 10);
            for (int c = 0; c < 12; c++) {
                P.same("day " + day + ", contract " + c, x.markByWays(c), x.mark(c));
            }
            x.close();
        }
    }
}
