/** Promise 18, fault: nothing to look at, each fault just so and just not, which comes first. */
public final class Promise18Test {
    private static final Promise P = new Promise(18);

    public static void main(String[] args) {
        nothingThere();
        first();
        second();
        secondOfPuts();
        third();
        thirdJustBetween();
        fourth();
        numbersDoNotMatter();
        lowestFirst();
        bothSizes();
        over();
        mostContracts();
        P.end();
    }

    private static Strikehall calls(boolean isAmerican, int... strikes) {
        Strikehall x = new Strikehall();
        for (int strike : strikes) {
            x.contract(Strikehall.CALL, strike, 5, isAmerican);
        }
        return x;
    }

    private static void quoted(String call, Strikehall x, int contract, int bid, int ask, int due) {
        x.quote(contract, bid, ask, 1);
        P.same(call, x.fault(), due);
    }

    private static void nothingThere() {
        P.says("`int fault()`: Returns the first fault of all quotes, 1 to 4; 0, if there is none.");
        P.answers("no contracts", Houses::empty, x -> x.fault(), 0);
        P.answers("no quotes", Houses::full, x -> x.fault(), 0);
        P.answers("a quote", () -> Houses.quoted(5, 6, 1), x -> x.fault(), 0);
    }

    private static void first() {
        P.says("1 a bid above, or the same as, the ask of the same contract");
        Strikehall x = calls(false, 10000);
        quoted("just below", x, 0, 59, 60, 0);
        quoted("the same", x, 0, 60, 60, 1);
        quoted("just above", x, 0, 61, 60, 1);
        quoted("0 and 0", x, 0, 0, 0, 1);
        quoted("20000 and 20000", x, 0, 20000, 20000, 1);
        quoted("0 and 20000", x, 0, 0, 20000, 0);
    }

    private static void second() {
        P.says("2 of two contracts alike but for their strikes: a CALL with the higher strike whose bid is above the ask "
                + "of the other one");
        Strikehall x = calls(false, 10000, 10001, 10000);
        quoted("the lower one", x, 0, 30, 40, 0);
        quoted("the higher one's bid the same", x, 1, 40, 50, 0);
        quoted("the higher one's bid above", x, 1, 41, 50, 2);
        quoted("the lower one's ask up with it", x, 0, 30, 41, 0);
        quoted("the lower one's bid above the higher one's ask", x, 0, 90, 99, 0);
        x.kill();
        quoted("the same strike, its ask", x, 0, 30, 40, 0);
        quoted("the same strike, its bid above", x, 2, 50, 60, 0);
        Strikehall y = calls(true, 10001);
        y.contract(Strikehall.CALL, 10000, 5, false);
        y.contract(Strikehall.CALL, 10000, 4, true);
        y.contract(Strikehall.PUT, 10000, 5, true);
        quoted("the higher one", y, 0, 50, 60, 0);
        quoted("the other one is not AMERICAN", y, 1, 30, 40, 0);
        quoted("the other one is of another expiry", y, 2, 30, 40, 0);
        quoted("the other one is of another kind", y, 3, 30, 40, 0);
    }

    private static void secondOfPuts() {
        P.says("or a PUT with the lower strike whose bid is above the ask of the other one");
        Strikehall x = new Strikehall();
        x.contract(Strikehall.PUT, 0, 5, true);
        x.contract(Strikehall.PUT, 20000, 5, true);
        quoted("the higher one", x, 1, 30, 40, 0);
        quoted("the lower one's bid the same", x, 0, 40, 50, 0);
        quoted("the lower one's bid above", x, 0, 41, 50, 2);
        quoted("the higher one's bid above the lower one's ask", x, 0, 10, 20, 0);
    }

    private static void third() {
        P.says("3 of three contracts alike but for their strikes, the middle one just between: twice the bid of the "
                + "middle one above the asks of both others, together");
        Strikehall x = calls(false, 10000, 10100, 10200);
        quoted("one alone", x, 0, 90, 100, 0);
        quoted("two of them", x, 1, 60, 70, 0);
        quoted("120 and 120", x, 2, 10, 20, 0);
        quoted("122 and 120", x, 1, 61, 70, 3);
        quoted("122 and 121", x, 2, 10, 21, 3);
        quoted("122 and 122", x, 2, 10, 22, 0);
        quoted("122 and 121", x, 0, 90, 99, 3);
        x.quote(1, 61, 70, 0);
        P.same("without the middle one", x.fault(), 0);
        Strikehall y = calls(false, 10000, 10100);
        y.contract(Strikehall.CALL, 10200, 5, true);
        y.contract(Strikehall.CALL, 10200, 6, false);
        y.contract(Strikehall.PUT, 10200, 5, false);
        quoted("the lower one", y, 0, 90, 100, 0);
        quoted("the middle one", y, 1, 61, 70, 0);
        quoted("the higher one is AMERICAN", y, 2, 10, 20, 0);
        quoted("the higher one is of another expiry", y, 3, 10, 20, 0);
        quoted("the higher one is of another kind", y, 4, 10, 20, 0);
    }

    private static void thirdJustBetween() {
        P.says("the middle one just between");
        Strikehall x = calls(false, 10000, 10099, 10100, 10101, 10200);
        quoted("the lower one", x, 0, 90, 100, 0);
        quoted("the higher one", x, 4, 10, 20, 0);
        quoted("a cent below the middle", x, 1, 65, 70, 0);
        x.quote(1, 0, 0, 0);
        quoted("a cent above the middle", x, 3, 65, 70, 0);
        x.quote(3, 0, 0, 0);
        quoted("the middle", x, 2, 65, 70, 3);
        Strikehall y = calls(true, 0, 10000, 20000);
        quoted("the lowest strike", y, 0, 40, 50, 0);
        quoted("the highest strike", y, 2, 20, 30, 0);
        quoted("the middle of them", y, 1, 41, 45, 3);
        Strikehall z = calls(false, 10000, 10000, 10000);
        quoted("all of the same strike", z, 0, 10, 20, 0);
        quoted("all of the same strike", z, 1, 90, 95, 0);
        quoted("all of the same strike", z, 2, 10, 20, 0);
    }

    private static void fourth() {
        P.says("4 of two AMERICAN contracts alike but for their expiries: the bid of the earlier one above the ask of the "
                + "later one");
        Strikehall x = new Strikehall();
        x.contract(Strikehall.CALL, 10000, 0, true);
        x.contract(Strikehall.CALL, 10000, 1, true);
        x.contract(Strikehall.CALL, 10000, 0, true);
        x.contract(Strikehall.CALL, 10000, 0, false);
        x.contract(Strikehall.PUT, 10000, 0, true);
        quoted("the later one", x, 1, 30, 40, 0);
        quoted("the earlier one's bid the same", x, 0, 40, 50, 0);
        quoted("the earlier one's bid above", x, 0, 41, 50, 4);
        quoted("the later one's bid above the earlier one's ask", x, 0, 10, 20, 0);
        quoted("the earlier one is not AMERICAN", x, 3, 60, 70, 0);
        quoted("the earlier one is of another kind", x, 4, 60, 70, 0);
        x.kill();
        quoted("the same expiry", x, 0, 30, 40, 0);
        quoted("the same expiry, its bid above", x, 2, 60, 70, 0);
        Strikehall y = new Strikehall();
        y.contract(Strikehall.PUT, 10000, 3, false);
        y.contract(Strikehall.PUT, 10000, 4, false);
        y.contract(Strikehall.PUT, 10000, 4, true);
        quoted("both are not AMERICAN", y, 0, 60, 70, 0);
        quoted("both are not AMERICAN", y, 1, 30, 40, 0);
        quoted("the later one alone is AMERICAN", y, 2, 30, 40, 0);
    }

    private static void numbersDoNotMatter() {
        P.says("looked for among contracts");
        Strikehall second = calls(false, 10100, 10000);
        quoted("the higher one", second, 0, 41, 50, 0);
        quoted("2, contract 0 is the higher one", second, 1, 30, 40, 2);
        int[][] orders = {{0, 1, 2}, {0, 2, 1}, {1, 0, 2}, {1, 2, 0}, {2, 0, 1}, {2, 1, 0}};
        for (int[] order : orders) {
            Strikehall third = calls(false, 10000 + 100 * order[0], 10000 + 100 * order[1], 10000 + 100 * order[2]);
            for (int c = 0; c < 3; c++) {
                // the bids are 90, 61, 10, by rising strikes, the asks 100, 70, 20
                int place = order[c];
                third.quote(c, place == 0 ? 90 : place == 1 ? 61 : 10, place == 0 ? 100 : place == 1 ? 70 : 20, 1);
            }
            P.same("3, strikes in any order", third.fault(), 3);
        }
        Strikehall fourth = new Strikehall();
        fourth.contract(Strikehall.PUT, 10000, 6, true);
        fourth.contract(Strikehall.PUT, 10000, 5, true);
        quoted("the later one", fourth, 0, 30, 40, 0);
        quoted("4, contract 0 is the later one", fourth, 1, 41, 50, 4);
    }

    private static void lowestFirst() {
        P.says("Returns the first fault of all quotes, 1 to 4");
        Strikehall x = calls(true, 10000, 10100, 10200);
        x.contract(Strikehall.CALL, 10000, 6, true);
        x.contract(Strikehall.PUT, 0, 0, false);
        quoted("none", x, 0, 90, 100, 0);
        quoted("none", x, 1, 61, 70, 0);
        quoted("4", x, 3, 50, 60, 4);
        quoted("3 ahead of 4", x, 2, 10, 20, 3);
        quoted("2 ahead of 3", x, 2, 71, 80, 2);
        quoted("1 ahead of 2, of the last contract", x, 4, 5, 5, 1);
        x.quote(4, 0, 0, 0);
        P.same("2 again", x.fault(), 2);
        x.quote(2, 10, 20, 1);
        P.same("3 again", x.fault(), 3);
        x.quote(1, 0, 0, 0);
        P.same("4 again", x.fault(), 4);
        x.quote(3, 0, 0, 0);
        P.same("none again", x.fault(), 0);
    }

    private static void bothSizes() {
        P.says("and have something left of both sizes, each");
        Strikehall x = Houses.quoted(60, 50, 2);
        P.same("2 and 2", x.fault(), 1);
        x.order(0, 0, 1, 50);
        P.same("2 and 1", x.fault(), 1);
        x.order(0, 0, 1, 50);
        P.same("2 and 0", x.fault(), 0);
        Strikehall y = Houses.quoted(60, 50, 1);
        y.order(0, 0, -1, 60);
        P.same("0 and 1", y.fault(), 0);
        y.order(0, 0, 1, 50);
        P.same("0 and 0", y.fault(), 0);
        Strikehall z = calls(true, 10000, 10100, 10200);
        z.quote(0, 90, 100, 1);
        z.quote(1, 61, 70, 1);
        z.quote(2, 10, 20, 1);
        P.same("three of them", z.fault(), 3);
        z.order(0, 2, -1, 10);
        P.same("one has nothing left for its bid", z.fault(), 0);
        Strikehall w = calls(true, 10000);
        w.contract(Strikehall.CALL, 10000, 6, true);
        w.quote(0, 61, 70, 1);
        w.quote(1, 50, 60, 1);
        P.same("two of them", w.fault(), 4);
        w.order(0, 0, 1, 70);
        P.same("one has nothing left for its ask", w.fault(), 0);
    }

    private static void over() {
        P.says("looked for among contracts that are not over");
        Strikehall x = new Strikehall();
        x.contract(Strikehall.CALL, 10000, 0, true);
        x.contract(Strikehall.CALL, 10000, 1, true);
        x.quote(0, 41, 50, 1);
        x.quote(1, 30, 40, 1);
        P.same("on the day of its expiry", x.fault(), 4);
        x.close();
        P.same("it is over", x.fault(), 0);
        x.quote(1, 40, 40, 1);
        P.same("the other one is not", x.fault(), 1);
        x.close();
        P.same("both are over", x.fault(), 0);
    }

    private static void mostContracts() {
        P.says("Contracts are numbered from 0, at most 12");
        Strikehall x = new Strikehall();
        for (int c = 0; c < 12; c++) {
            // no strike is just between two others
            x.contract(Strikehall.PUT, 9000 + (1 << c), 5, true);
            quoted("contract " + c, x, c, 10 * c, 10 * c + 9, 0);
        }
        quoted("the last one's bid is its ask", x, 11, 119, 119, 1);
        quoted("the first one's bid above the last one's ask", x, 11, 0, 5, 2);
    }
}
