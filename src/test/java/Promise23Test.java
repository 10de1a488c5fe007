/** Promise 23, cause: the ends of its number, each cause by itself, together the worth. */
public final class Promise23Test {
    private static final Promise P = new Promise(23);

    public static void main(String[] args) {
        ends();
        refused();
        eachByItself();
        expiryAndDay();
        refusedCallsCountNothing();
        together();
        P.end();
    }

    private static void causes(String when, Strikehall x, long... due) {
        long all = 0;
        for (int cause = 0; cause <= 5; cause++) {
            P.same(when + ", cause(" + cause + ")", x.cause(cause), due[cause]);
            all += due[cause];
        }
        P.same(when + ", all causes are the worth", x.worth(), all);
    }

    private static void ends() {
        P.says("`long cause(int cause) throws IndexOutOfBoundsException`: Returns what the house is worth more by a cause, "
                + "0 to 5.");
        Strikehall x = Houses.quoted(45, 60, 20);
        x.order(0, 0, 1, 60);
        P.same("cause(0)", x.cause(0), 10000);
        x.steps(1, 1);
        // two days of steps by 10 up or down: 20, by a quarter
        P.same("cause(5)", x.cause(5), 45000);
    }

    private static void refused() {
        P.says("@throws IndexOutOfBoundsException if there is no such cause");
        P.refusedEach("cause", Houses::busy, Promise.INDEX, (x, cause) -> x.cause(cause),
                -1, 6, Promise.LEAST, Promise.MOST);
        P.refusedEach("cause", Houses::empty, Promise.INDEX, (x, cause) -> x.cause(cause), -1, 6);
    }

    private static void eachByItself() {
        P.says("0 orders, 1 moves of the price, 2 days that go by, 3 trades in shares, 4 exercise and expiry, "
                + "5 steps and dividends that are told");
        Strikehall x = new Strikehall();
        x.contract(Strikehall.CALL, 10000, 2, true);
        x.quote(0, 45, 60, 20);
        causes("nothing yet", x, 0, 0, 0, 0, 0, 0);
        x.order(0, 0, 2, 60);
        causes("an order", x, 20000, 0, 0, 0, 0, 0);
        x.move(10100);
        // up up pays 300, up down 100, each by a quarter, and twice
        causes("a move", x, 20000, -150000, 0, 0, 0, 0);
        x.hedge(-1, 500);
        causes("a share", x, 20000, -150000, 0, -500, 0, 0);
        x.exercise(0, 0, 1);
        // its mark was 125000, it pays 100
        causes("an exercise", x, 20000, -150000, 0, -500, 25000, 0);
        x.close();
        causes("a day", x, 20000, -150000, 25000, -500, 25000, 0);
        x.dividend(2, 100);
        causes("a dividend", x, 20000, -150000, 25000, -500, 25000, 0);
        x.steps(5, 10);
        causes("steps", x, 20000, -150000, 25000, -500, 25000, 0);
        x.move(10000);
        // up by 50 less 100, down by 100 less 100: nothing; the share is 100 less
        causes("another move", x, 20000, 50000, 25000, -500, 25000, 0);
        x.dividend(2, 20);
        // up by 50 less 20 pays 30, by 10 of 15
        causes("another dividend", x, 20000, 50000, 25000, -500, 25000, -20000);
        x.close();
        causes("another day", x, 20000, 50000, 45000, -500, 25000, -20000);
        x.close();
        causes("an expiry", x, 20000, 50000, 45000, -500, 25000, -20000);
    }

    private static void expiryAndDay() {
        P.says("2 days that go by");
        Strikehall x = new Strikehall();
        x.contract(Strikehall.CALL, 9900, 0, false);
        x.contract(Strikehall.CALL, 10000, 1, false);
        x.quote(0, 100, 100, 10);
        x.quote(1, 50, 50, 10);
        x.order(0, 0, 1, 100);
        x.order(0, 1, 1, 50);
        causes("orders at the marks", x, 0, 0, 0, 0, 0, 0);
        x.contrary(0, 0, true);
        x.close();
        causes("an expiry with a notice, and a day", x, 0, 0, 50000, 0, 100000, 0);
        x.close();
        causes("an expiry that pays nothing", x, 0, 0, 50000, 0, 100000, 0);
    }

    private static void refusedCallsCountNothing() {
        P.says("A call that throws an exception changes nothing");
        Strikehall x = Houses.quoted(45, 60, 20);
        x.order(0, 0, 2, 60);
        Check.outcome(() -> x.move(20001));
        Check.outcome(() -> x.hedge(1, 10001));
        Check.outcome(() -> x.dividend(0, 5));
        Check.outcome(() -> x.order(0, 0, 0, 60));
        Check.outcome(() -> x.exercise(0, 0, 1));
        Check.outcome(() -> { x.steps(0, 1); return 0; });
        causes("refused calls", x, 20000, 0, 0, 0, 0, 0);
    }

    private static void together() {
        P.says("Its profit is that, parted to causes");
        Strikehall x = Houses.busy();
        for (int day = 1; day <= 12; day++) {
            x.move(10020 + 37 * (day % 5) - 11 * day);
            x.dividend(day + 1, 10 * day % 70);
            x.steps(1 + day % 3, 1 + day % 7);
            x.close();
            long all = 0;
            for (int cause = 0; cause <= 5; cause++) {
                all += x.cause(cause);
            }
            P.same("day " + day, x.worth(), all);
        }
    }
}
