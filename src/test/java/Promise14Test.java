/** Promise 14, close: the first and the last day, what expires, the most lots, what is refused. */
public final class Promise14Test {
    private static final Promise P = new Promise(14);

    public static void main(String[] args) {
        days();
        lastDay();
        nothingThere();
        expiry();
        paysSomething();
        notices();
        byRisingNumbers();
        theHouseExercises();
        mostLots();
        over();
        dividendOfTheNextDay();
        P.end();
    }

    /** Customer 0 has 2 lots of a CALL, the house owes them. */
    private static Strikehall holding(int strike, int expiry) {
        Strikehall x = new Strikehall();
        x.contract(Strikehall.CALL, strike, expiry, false);
        x.quote(0, 0, 1, 100);
        x.order(0, 0, 2, 1);
        return x;
    }

    private static void days() {
        P.says("`int close() throws IllegalStateException`: Closes today.");
        P.says("Returns the day that is then.");
        Strikehall x = new Strikehall();
        for (int day = 1; day <= 200; day++) {
            P.same("close()", x.close(), day);
        }
    }

    private static void lastDay() {
        P.says("Throws `IllegalStateException` if today is 200");
        P.answers("on day 199", () -> Houses.onDay(199), x -> x.close(), 200);
        P.refused("on day 200", () -> Houses.onDay(200), Promise.STATE, x -> x.close());
        Houses.Setup withLots = () -> {
            Strikehall x = Houses.onDay(200);
            x.contract(Strikehall.CALL, 9000, 200, false);
            x.quote(0, 5, 6, 7);
            x.order(0, 0, 2, 6);
            return x;
        };
        P.refused("on day 200, with a contract of 200", withLots, Promise.STATE, x -> x.close());
        P.answers("it is not over then", withLots, x -> x.exercise(0, 0, 1), 1000);
    }

    private static void nothingThere() {
        P.says("the contracts whose expiry it is, by rising numbers, are exercised");
        P.answers("no contracts", Houses::empty, x -> x.close(), 1);
        Strikehall x = holding(9900, 0);
        x.exercise(0, 0, 2);
        x.close();
        P.same("no lots are left, cash(0)", x.cash(0), -2000 + 200000);
        P.same("no lots are left, cash(NONE)", x.cash(-1), 2000 - 200000);
    }

    private static void expiry() {
        P.says("As a day is closed, the contracts whose expiry it is");
        Strikehall x = holding(9900, 1);
        x.close();
        P.same("ahead of it, lots(0, 0)", x.lots(0, 0), 2);
        P.same("ahead of it, cash(0)", x.cash(0), -2000);
        x.close();
        P.same("that day, lots(0, 0)", x.lots(0, 0), 0);
        P.same("that day, cash(0)", x.cash(0), 198000);
        x.close();
        P.same("behind it, cash(0)", x.cash(0), 198000);
    }

    private static void paysSomething() {
        P.says("if it pays something; all other lots are gone then");
        for (int[] due : new int[][] {{9999, 1}, {10000, 0}, {10001, 0}}) {
            Strikehall x = holding(due[0], 0);
            x.close();
            P.same("strike " + due[0] + ", cash(0)", x.cash(0), -2000 + 2000 * due[1]);
            P.same("strike " + due[0] + ", lots(0, 0)", x.lots(0, 0), 0);
            P.same("strike " + due[0] + ", lots(NONE, 0)", x.lots(-1, 0), 0);
        }
        whatPaysNothingMakesNoDraw();
    }

    /** Customers 1 to 3 owe a lot each: of 3 the first draw is 0, the second 0, the third 1. */
    private static Strikehall holdingAnother(int strike) {
        Strikehall x = holding(strike, 0);
        x.contract(Strikehall.CALL, 9000, 5, true);
        x.quote(1, 5, 6, 100);
        x.order(1, 1, -1, 5);
        x.order(2, 1, -1, 5);
        x.order(3, 1, -1, 5);
        x.order(4, 1, 3, 6);
        x.close();
        x.exercise(4, 1, 1);
        return x;
    }

    private static void whatPaysNothingMakesNoDraw() {
        Strikehall x = holdingAnother(10000);
        P.same("2 lots that pay nothing make no draw, lots(1, 1)", x.lots(1, 1), 0);
        P.same("2 lots that pay nothing make no draw, lots(2, 1)", x.lots(2, 1), -1);
        Strikehall y = holdingAnother(9999);
        P.same("2 lots that pay 1 make two, lots(1, 1)", y.lots(1, 1), -1);
        P.same("2 lots that pay 1 make two, lots(2, 1)", y.lots(2, 1), 0);
    }

    private static void notices() {
        P.says("for all lots of each customer, by rising numbers, that did not give a contrary notice for it");
        Strikehall x = holding(9900, 0);
        x.contrary(0, 0, true);
        x.close();
        P.same("a notice, cash(0)", x.cash(0), -2000);
        P.same("a notice, lots(0, 0)", x.lots(0, 0), 0);
        P.same("a notice, cause(4)", x.cause(4), 200000);
        Strikehall y = holding(9900, 0);
        y.contract(Strikehall.CALL, 9900, 0, false);
        y.contrary(0, 1, true);
        y.close();
        P.same("a notice of another contract, cash(0)", y.cash(0), 198000);
    }

    /** Seed 0: the first draw is 0, the second 21468, which is 0 of 3 too. */
    private static void byRisingNumbers() {
        P.says("by rising numbers, are exercised");
        Strikehall x = new Strikehall();
        for (int c = 0; c < 2; c++) {
            x.contract(Strikehall.CALL, 9900 - 100 * c, 0, false);
            x.quote(c, 0, 0, 100);
            x.order(0, c, -1, 0);
            x.order(1, c, -2, 0);
            x.order(5, c, 1, 0);
            x.limit(0);
            x.order(2, c, 100, 0);
            x.limit(100);
            // the house holds nothing: 2 has two lots and 5 one
        }
        x.contrary(2, 0, true);
        x.contrary(2, 1, true);
        x.close();
        // contract 0 first: 0 of 3 is customer 0; then 21468 of 3 is 0: customer 0 again
        P.same("cash(0)", x.cash(0), -100000 - 200000);
        P.same("cash(1)", x.cash(1), 0);
        P.same("cash(5)", x.cash(5), 300000);
        P.same("cash(2)", x.cash(2), 0);
    }

    private static void theHouseExercises() {
        P.says("then of the house, if it pays something");
        for (int[] due : new int[][] {{9999, 1}, {10000, 0}}) {
            Strikehall x = new Strikehall();
            x.contract(Strikehall.CALL, due[0], 0, false);
            x.quote(0, 0, 1, 100);
            x.order(0, 0, -3, 0);
            x.close();
            P.same("strike " + due[0] + ", cash(NONE)", x.cash(-1), 3000 * due[1]);
            P.same("strike " + due[0] + ", cash(0)", x.cash(0), -3000 * due[1]);
            P.same("strike " + due[0] + ", lots(0, 0)", x.lots(0, 0), 0);
        }
    }

    /** All 12 contracts expire, of each the house owes 1000 lots, which pay the most. */
    private static void mostLots() {
        P.says("for all lots of each customer");
        Strikehall x = new Strikehall();
        x.limit(1000);
        for (int c = 0; c < 12; c++) {
            x.contract(Strikehall.PUT, 20000, 0, false);
            for (int order = 0; order < 10; order++) {
                x.quote(c, 0, 0, 100);
                x.order(c % 6, c, 100, 0);
            }
        }
        x.move(0);
        P.same("ahead of it, worth()", x.worth(), -240000000000L);
        P.same("close()", x.close(), 1);
        P.same("cash(NONE)", x.cash(-1), -240000000000L);
        for (int customer = 0; customer <= 5; customer++) {
            P.same("cash(" + customer + ")", x.cash(customer), 40000000000L);
        }
        P.same("worth()", x.worth(), -240000000000L);
        P.same("cause(4)", x.cause(4), 0);
    }

    private static void over() {
        P.says("its quote is taken away, and its value and mark are 0 then");
        Strikehall x = holding(9900, 0);
        x.close();
        for (int what = 0; what < 4; what++) {
            P.same("quoted(0, " + what + ")", x.quoted(0, what), 0);
        }
        P.same("value above", x.value(0, false), 0);
        P.same("value below", x.value(0, true), 1);
        P.same("mark", x.mark(0), 0);
        P.same("markByWays", x.markByWays(0), 0);
    }

    private static void dividendOfTheNextDay() {
        P.says("Then the next day is there; its dividend, if there is one, is not in the price");
        Strikehall x = holding(9000, 2);
        x.dividend(1, 300);
        P.same("ahead of it, mark", x.mark(0), 700000);
        x.close();
        P.same("on its day, mark", x.mark(0), 1000000);
        P.same("cause(2)", x.cause(2), -600000);
        P.same("cause(4)", x.cause(4), 0);
    }
}
