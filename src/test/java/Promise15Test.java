/** Promise 15, value: parts in lowest terms, 0, the nearest and the farthest expiry, odd prices. */
public final class Promise15Test {
    private static final Promise P = new Promise(15);

    public static void main(String[] args) {
        contract();
        isBelow();
        zero();
        lowestTerms();
        atItsExpiry();
        aheadOfIt();
        american();
        belowZero();
        farthest();
        over();
        atThePriceOfThen();
        P.end();
    }

    private static void part(String call, Strikehall x, int contract, long above, long below) {
        P.same(call + ", above", x.value(contract, false), above);
        P.same(call + ", below", x.value(contract, true), below);
    }

    private static void contract() {
        P.says("`contract`: the number of a contract");
        P.says("Throws `IndexOutOfBoundsException` if there is no such contract");
        part("the first", Houses.full(), 0, 1000, 1);
        part("the last, a PUT of 10100, today", Houses.full(), 11, 100, 1);
        for (boolean below : new boolean[] {false, true}) {
            P.refusedEach("contract", Houses::busy, Promise.INDEX, (x, c) -> x.value(c, below),
                    -1, Houses.BUSY_CONTRACTS, Promise.LEAST, Promise.MOST);
            P.refusedEach("contract, of 12", Houses::full, Promise.INDEX, (x, c) -> x.value(c, below), -1, 12);
            P.refusedEach("contract, of none", Houses::empty, Promise.INDEX, (x, c) -> x.value(c, below), 0);
        }
    }

    private static void isBelow() {
        P.says("`isBelow`: whether the number below is told, otherwise that above");
        P.says("`long value(int contract, boolean isBelow) throws IndexOutOfBoundsException`: Returns the value of a contract.");
        Strikehall x = Houses.one();
        x.steps(1, 2);
        // two days of steps up 10, down 20: up up pays 20, by 4 of 9
        part("80 of 9", x, 0, 80, 9);
    }

    private static void zero() {
        P.says("Returns the number, of a part in lowest terms; 0 of 1 for 0.");
        Strikehall x = new Strikehall();
        x.contract(Strikehall.CALL, 10000, 0, false);
        x.contract(Strikehall.CALL, 10100, 1, false);
        x.contract(Strikehall.CALL, 20000, 10, true);
        x.contract(Strikehall.PUT, 0, 10, true);
        x.contract(Strikehall.CALL, 10099, 1, false);
        part("today, at the strike", x, 0, 0, 1);
        part("a step up is at the strike", x, 1, 0, 1);
        part("10 days, far above", x, 2, 0, 1);
        part("10 days, far below", x, 3, 0, 1);
        part("a step up pays 1", x, 4, 1, 2);
    }

    private static void lowestTerms() {
        P.says("It is told as a part in lowest terms.");
        Strikehall x = new Strikehall();
        x.contract(Strikehall.CALL, 10000, 1, false);
        x.contract(Strikehall.CALL, 9000, 10, false);
        x.steps(2, 4);
        // 4 times 20 of 6
        part("80 of 6 is 40 of 3", x, 0, 40, 3);
        part("1000 of 1", x, 1, 1000, 1);
        x.steps(3, 6);
        // 6 times 30 of 9
        part("180 of 9 is 20 of 1", x, 0, 20, 1);
        x.steps(10, 9);
        // 9 times 100 of 19
        part("900 of 19", x, 0, 900, 19);
    }

    private static void atItsExpiry() {
        P.says("What it pays at a price is that less the strike, for a PUT the strike less that, but at least 0.");
        Strikehall x = new Strikehall();
        x.contract(Strikehall.CALL, 10000, 0, false);
        x.contract(Strikehall.PUT, 10000, 0, true);
        for (int price : new int[] {0, 9999, 10000, 10001, 20000}) {
            x.move(price);
            part("a CALL at " + price, x, 0, price > 10000 ? price - 10000 : 0, 1);
            part("a PUT at " + price, x, 1, price < 10000 ? 10000 - price : 0, 1);
        }
    }

    private static void aheadOfIt() {
        P.says("the sum of down times its value of the next day behind a step up, and up times that behind a step down, "
                + "divided by w");
        Strikehall x = new Strikehall();
        x.steps(1, 3);
        x.contract(Strikehall.CALL, 9990, 1, false);
        x.contract(Strikehall.PUT, 10005, 1, false);
        // up it pays 20, by 3 of 4; down nothing
        part("a CALL", x, 0, 15, 1);
        // down it pays 35, by 1 of 4; up nothing
        part("a PUT", x, 1, 35, 4);
        x.close();
        part("a CALL at its expiry", x, 0, 10, 1);
        part("a PUT at its expiry", x, 1, 5, 1);
    }

    private static void american() {
        P.says("if it is AMERICAN, what it pays at the price of that day, if that is more");
        Strikehall x = new Strikehall();
        x.contract(Strikehall.CALL, 9900, 1, true);
        x.contract(Strikehall.CALL, 9900, 1, false);
        part("the same as to wait", x, 0, 100, 1);
        x.dividend(1, 1);
        // up it pays 199, down nothing, by half
        part("to wait is less", x, 0, 100, 1);
        part("it may not be exercised", x, 1, 199, 2);
        x.move(9899);
        // up it pays 98, down nothing
        part("it pays nothing now", x, 0, 49, 1);
        x.move(0);
        part("far below", x, 0, 0, 1);
        inTheMidst();
    }

    /** On day 1 it is exercised behind a step up, as it pays 100 and 99 and a half are to come. */
    private static void inTheMidst() {
        Strikehall x = new Strikehall();
        x.contract(Strikehall.CALL, 10000, 2, true);
        x.contract(Strikehall.CALL, 10000, 2, false);
        x.dividend(2, 1);
        part("exercised on day 1", x, 0, 50, 1);
        part("it may not be exercised", x, 1, 199, 4);
    }

    private static void belowZero() {
        P.says("prices of a lattice may be below 0");
        Strikehall x = new Strikehall();
        x.move(0);
        x.contract(Strikehall.PUT, 0, 1, false);
        x.contract(Strikehall.CALL, 0, 1, false);
        x.contract(Strikehall.PUT, 0, 2, true);
        part("a PUT of 0 at 0", x, 0, 50, 1);
        part("a CALL of 0 at 0", x, 1, 50, 1);
        part("a PUT of 0 at 0, two days", x, 2, 50, 1);
        x.dividend(1, 1000);
        part("a PUT, with a dividend", x, 0, 1000, 1);
        part("a CALL, with a dividend", x, 1, 0, 1);
    }

    private static void farthest() {
        P.says("w being up and down, together");
        Strikehall x = new Strikehall();
        x.steps(10, 9);
        x.contract(Strikehall.CALL, 10999, 10, false);
        // ten steps up alone pay 1: 9 to the power of 10 of 19 to that power
        part("the least", x, 0, 3486784401L, 6131066257801L);
        x.steps(10, 10);
        part("20 to the power of 10", x, 0, 1, 1024);
        x.steps(1, 1);
        part("nothing", x, 0, 0, 1);
        Strikehall y = new Strikehall();
        y.move(20000);
        y.steps(10, 9);
        y.contract(Strikehall.PUT, 10999, 10, false);
        y.contract(Strikehall.PUT, 20000, 10, true);
        for (int day = 1; day <= 10; day++) {
            y.dividend(day, 1000);
        }
        // 999 and what the CALL above is worth
        part("a large one", y, 0, 6124938678327600L, 6131066257801L);
        part("the largest is whole", y, 1, 10000, 1);
        y.move(0);
        part("the largest is whole", y, 1, 30000, 1);
    }

    private static void over() {
        P.says("its value and mark are 0 then");
        Strikehall x = Houses.busy();
        part("one that is over", x, 2, 0, 1);
        x.move(20000);
        part("one that is over, at another price", x, 2, 0, 1);
        Strikehall y = Houses.full();
        for (int day = 0; day < 200; day++) {
            y.close();
        }
        for (int c = 0; c < 12; c++) {
            part("on day 200, contract " + c, y, c, 0, 1);
        }
    }

    private static void atThePriceOfThen() {
        P.says("Its value: at its expiry what it pays at the price of then");
        Strikehall x = new Strikehall();
        x.contract(Strikehall.CALL, 10000, 1, false);
        part("a day ahead", x, 0, 50, 1);
        x.move(10051);
        // up it pays 151, down nothing
        part("a day ahead, moved", x, 0, 151, 2);
        x.close();
        part("at its expiry", x, 0, 51, 1);
        x.move(10049);
        part("at its expiry, moved", x, 0, 49, 1);
    }
}
