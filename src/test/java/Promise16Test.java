/** Promise 16, mark: rounded down, 0 and the most, one that is over, what is refused. */
public final class Promise16Test {
    private static final Promise P = new Promise(16);

    public static void main(String[] args) {
        refused();
        roundedDown();
        ends();
        over();
        asDaysGo();
        P.end();
    }

    private static void refused() {
        P.says("Returns the mark of a contract. @throws IndexOutOfBoundsException if there is no such contract");
        P.answers("the first of 12", Houses::full, x -> x.mark(0), 1000000);
        P.answers("the last of 12", Houses::full, x -> x.mark(11), 100000);
        P.refusedEach("contract", Houses::busy, Promise.INDEX, (x, c) -> x.mark(c),
                -1, Houses.BUSY_CONTRACTS, Promise.LEAST, Promise.MOST);
        P.refusedEach("contract, of 12", Houses::full, Promise.INDEX, (x, c) -> x.mark(c), -1, 12);
        P.refusedEach("contract, of none", Houses::empty, Promise.INDEX, (x, c) -> x.mark(c), 0);
    }

    private static void roundedDown() {
        P.says("Its mark is 1000 times its value, rounded down.");
        Strikehall x = new Strikehall();
        x.contract(Strikehall.CALL, 10000, 1, false);
        x.contract(Strikehall.PUT, 10000, 1, false);
        x.contract(Strikehall.CALL, 10999, 10, false);
        x.steps(1, 2);
        P.same("20 of 3", x.mark(0), 6666);
        P.same("20 of 3, a PUT", x.mark(1), 6666);
        x.steps(10, 9);
        P.same("900 of 19", x.mark(0), 47368);
        P.same("less than a thousandth", x.mark(2), 0);
        x.steps(10, 10);
        P.same("1 of 1024", x.mark(2), 0);
        x.move(10001);
        P.same("2 of 1024", x.mark(2), 1);
        x.move(10000);
        P.same("50 of 1", x.mark(0), 50000);
        x.move(9999);
        P.same("99 of 2", x.mark(0), 49500);
    }

    private static void ends() {
        P.says("prices of a lattice may be below 0");
        Strikehall x = new Strikehall();
        x.contract(Strikehall.PUT, 20000, 10, true);
        x.contract(Strikehall.CALL, 0, 10, false);
        x.move(0);
        for (int day = 1; day <= 10; day++) {
            x.dividend(day, 1000);
        }
        P.same("a PUT of 20000 at 0, dividends of 10000", x.mark(0), 30000000);
        P.same("a CALL of 0 at 0", x.mark(1), 0);
        x.move(20000);
        P.same("a PUT of 20000 at 20000, dividends of 10000", x.mark(0), 10000000);
        P.same("a CALL of 0 at 20000, dividends of 10000", x.mark(1), 10000000);
    }

    private static void over() {
        P.says("its value and mark are 0 then");
        Strikehall x = new Strikehall();
        x.contract(Strikehall.CALL, 9000, 1, true);
        x.close();
        P.same("on its expiry", x.mark(0), 1000000);
        x.close();
        P.same("behind it", x.mark(0), 0);
    }

    private static void asDaysGo() {
        P.says("`int mark(int contract) throws IndexOutOfBoundsException`");
        Strikehall x = new Strikehall();
        x.contract(Strikehall.CALL, 10000, 3, false);
        // 3 days: three up pay 300, two up pay 100, of 8: 300 and 3 times 100; then 200 of 4, 100 of 2
        P.same("3 days", x.mark(0), 75000);
        x.close();
        P.same("2 days", x.mark(0), 50000);
        x.close();
        P.same("1 day", x.mark(0), 50000);
        x.close();
        P.same("today", x.mark(0), 0);
    }
}
