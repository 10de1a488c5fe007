/** Promise 12, exercise: the ends of its numbers, the last lot, the last owed, what comes first. */
public final class Promise12Test {
    private static final Promise P = new Promise(12);

    public static void main(String[] args) {
        holder();
        contract();
        lots();
        thousandLots();
        asManyAsItHas();
        returned();
        whoMay();
        assigned();
        lastOwed();
        refusedIndex();
        refusedArguments();
        refusedFewer();
        refusedOver();
        refusedNotToday();
        severalExceptions();
        whoOwesPays();
        P.end();
    }

    /** Customer 0 has 10 lots of a CALL of 9900; 1 owes 2, 4 owes 3, and the house 5. */
    private static Strikehall owed(int expiry, boolean isAmerican) {
        Strikehall x = new Strikehall();
        x.contract(Strikehall.CALL, 9900, expiry, isAmerican);
        x.quote(0, 100, 100, 100);
        x.order(1, 0, -2, 100);
        x.order(4, 0, -3, 100);
        x.order(0, 0, 10, 100);
        return x;
    }

    private static void holder() {
        P.says("`holder`: 0 to 5, or NONE for the house");
        for (int holder = 0; holder <= 5; holder++) {
            Strikehall x = Houses.quoted(5, 6, 10);
            x.order(holder, 0, 2, 6);
            x.close();
            x.close();
            P.same("exercise(" + holder + ", 0, 1)", x.exercise(holder, 0, 1), 0);
            P.same("lots(" + holder + ", 0)", x.lots(holder, 0), 1);
            P.same("lots(NONE, 0)", x.lots(-1, 0), -1);
        }
        Strikehall x = Houses.quoted(5, 6, 10);
        x.order(0, 0, -2, 5);
        x.close();
        x.close();
        P.same("exercise(NONE, 0, 1)", x.exercise(Strikehall.NONE, 0, 1), 0);
        P.same("lots(NONE, 0)", x.lots(-1, 0), 1);
        P.same("lots(0, 0)", x.lots(0, 0), -1);
        P.refusedEach("holder", Houses::busy, Promise.INDEX, (h, who) -> h.exercise(who, 0, 1),
                -2, 6, Promise.LEAST, Promise.MOST);
    }

    private static void contract() {
        P.says("`contract`: the number of a contract");
        P.answers("the first", Houses::busy, x -> x.exercise(0, 0, 1), 120);
        P.answers("another", Houses::busy, x -> x.exercise(2, 3, 1), 30);
        P.refusedEach("contract", Houses::busy, Promise.INDEX, (x, c) -> x.exercise(0, c, 1),
                -1, Houses.BUSY_CONTRACTS, Promise.LEAST, Promise.MOST);
        P.refused("no contracts", Houses::empty, Promise.INDEX, x -> x.exercise(0, 0, 1));
    }

    private static void lots() {
        P.says("`lots`: 1 to 1000");
        P.answers("1", Houses::busy, x -> x.exercise(0, 0, 1), 120);
        P.refusedEach("lots", Houses::busy, Promise.ARGUMENT, (x, lots) -> x.exercise(0, 0, lots),
                0, -1, 1001, Promise.LEAST, Promise.MOST);
        P.refusedEach("lots, of more", () -> holding(1100), Promise.ARGUMENT, (x, lots) -> x.exercise(0, 0, lots), 1001);
    }

    /** Customer 0 has so many lots, up to 1100; the house owes 1000 of them at the most, 1 the others. */
    private static Strikehall holding(int lots) {
        Strikehall x = new Strikehall();
        x.contract(Strikehall.PUT, 20000, 3, true);
        x.limit(1000);
        x.quote(0, 1, 2, 100);
        x.order(1, 0, -100, 1);
        for (int left = lots; left > 0; left -= 100) {
            x.quote(0, 1, 2, 100);
            x.order(0, 0, Math.min(left, 100), 2);
        }
        return x;
    }

    private static void thousandLots() {
        P.says("each lot brings 1000 times what it pays at the price of now");
        Strikehall x = holding(1100);
        x.move(0);
        P.same("1100 lots", x.lots(0, 0), 1100);
        P.same("1000 of them", x.exercise(0, 0, 1000), 20000);
        P.same("lots(0, 0)", x.lots(0, 0), 100);
        P.same("cash(0)", x.cash(0), -2200000L + 20000000000L);
        P.same("100 are owed then", x.lots(1, 0) + x.lots(-1, 0), -100);
        P.same("all money together", x.cash(0) + x.cash(1) + x.cash(-1), 0);
        P.answers("all of 1000", () -> holding(1000), h -> h.exercise(0, 0, 1000), 10000);
        P.refused("1000 of 999", () -> holding(999), Promise.STATE, h -> h.exercise(0, 0, 1000));
    }

    private static void asManyAsItHas() {
        P.says("Whoever has lots of an AMERICAN contract, or of one whose expiry is today, may exercise them");
        P.answers("9 of 10", () -> owed(5, true), x -> x.exercise(0, 0, 9), 100);
        P.answers("10 of 10", () -> owed(5, true), x -> x.exercise(0, 0, 10), 100);
        P.refused("11 of 10", () -> owed(5, true), Promise.STATE, x -> x.exercise(0, 0, 11));
        Strikehall x = owed(5, true);
        x.exercise(0, 0, 10);
        P.same("then there are none", Check.outcome(() -> x.exercise(0, 0, 1)).equals("throws.IllegalStateException") ? 1 : 0, 1);
    }

    private static void returned() {
        P.says("Returns what one lot brings, in cents.");
        P.says("`int exercise(int holder, int contract, int lots) throws IndexOutOfBoundsException, "
                + "IllegalArgumentException, IllegalStateException`: Exercises lots.");
        for (int[] due : new int[][] {{9901, 1}, {9900, 0}, {9899, 0}, {0, 0}, {20000, 10100}}) {
            Strikehall x = owed(5, true);
            x.move(due[0]);
            P.same("a CALL of 9900, at " + due[0], x.exercise(0, 0, 3), due[1]);
            P.same("its cash", x.cash(0), -1000000 + 3000 * due[1]);
            P.same("its lots", x.lots(0, 0), 7);
        }
    }

    private static void whoMay() {
        P.says("or of one whose expiry is today");
        P.answers("AMERICAN, ahead of its expiry", () -> owed(1, true), x -> x.exercise(0, 0, 1), 100);
        P.answers("AMERICAN, on its expiry", () -> owed(0, true), x -> x.exercise(0, 0, 1), 100);
        P.answers("not AMERICAN, on its expiry", () -> owed(0, false), x -> x.exercise(0, 0, 1), 100);
        P.answers("not AMERICAN, as its expiry is there", () -> {
            Strikehall x = owed(10, false);
            for (int day = 0; day < 10; day++) {
                x.close();
            }
            return x;
        }, x -> x.exercise(0, 0, 1), 100);
    }

    private static void assigned() {
        P.says("each is assigned by a draw, one behind the other, to one who owes lots");
        // 10 are owed: 42 becomes 1250496027, 19081 of 10 is 1, customer 1; then 17033 of 9 is 5, the house
        Strikehall x = owed(5, true);
        x.seed(42);
        x.exercise(0, 0, 2);
        P.same("lots(1, 0)", x.lots(1, 0), -1);
        P.same("lots(4, 0)", x.lots(4, 0), -3);
        P.same("lots(NONE, 0)", x.lots(-1, 0), -4);
        Strikehall y = owed(5, true);
        y.seed(42);
        y.exercise(0, 0, 1);
        y.exercise(0, 0, 1);
        P.same("by two calls, lots(1, 0)", y.lots(1, 0), -1);
        P.same("by two calls, lots(NONE, 0)", y.lots(-1, 0), -4);
    }

    private static void lastOwed() {
        P.says("those of the customers by rising numbers first, those of the house last");
        // 2147483647 becomes 1043980748: 15929, of 10 it is 9, the last one
        Strikehall x = owed(5, true);
        x.seed(2147483647);
        x.exercise(0, 0, 1);
        P.same("9 of 10 is of the house", x.lots(-1, 0), -4);
        Strikehall y = owed(5, true);
        y.seed(0);
        y.exercise(0, 0, 1);
        P.same("0 of 10 is of customer 1", y.lots(1, 0), -1);
        y.exercise(0, 0, 9);
        for (int holder = -1; holder <= 5; holder++) {
            P.same("nobody owes then, lots(" + holder + ", 0)", y.lots(holder, 0), 0);
        }
    }

    private static void refusedIndex() {
        P.says("Throws `IndexOutOfBoundsException` if there is no such customer, but for NONE, or contract");
        P.refused("holder, lots besides", Houses::busy, Promise.INDEX, x -> x.exercise(6, 0, 0));
        P.refused("holder, over besides", Houses::busy, Promise.INDEX, x -> x.exercise(-2, 2, 1));
        P.refused("contract, lots besides", Houses::busy, Promise.INDEX, x -> x.exercise(0, 5, 1001));
        P.refused("contract, of the house", Houses::busy, Promise.INDEX, x -> x.exercise(Strikehall.NONE, -1, 1));
        P.refused("both", Houses::busy, Promise.INDEX, x -> x.exercise(6, 5, 0));
    }

    private static void refusedArguments() {
        P.says("Throws `IllegalArgumentException` if lots is out of range");
        P.refused("over besides", Houses::busy, Promise.ARGUMENT, x -> x.exercise(0, 2, 0));
        P.refused("not today besides", Houses::busy, Promise.ARGUMENT, x -> x.exercise(5, 1, 1001));
        P.refused("none there besides", Houses::busy, Promise.ARGUMENT, x -> x.exercise(3, 0, 0));
    }

    private static void refusedFewer() {
        P.says("Throws `IllegalStateException` if it has fewer, the contract is over, or is not AMERICAN "
                + "and its expiry is not today");
        P.refused("one who has none", Houses::busy, Promise.STATE, x -> x.exercise(3, 0, 1));
        P.refused("one who owes", Houses::busy, Promise.STATE, x -> x.exercise(1, 0, 1));
        P.refused("one who owes as many", Houses::busy, Promise.STATE, x -> x.exercise(1, 0, 7));
        P.refused("the house, which owes", Houses::busy, Promise.STATE, x -> x.exercise(Strikehall.NONE, 0, 1));
        P.refused("11 of 10", Houses::busy, Promise.STATE, x -> x.exercise(0, 0, 11));
        P.refused("1000 of 10", Houses::busy, Promise.STATE, x -> x.exercise(0, 0, 1000));
        P.refused("no lots of anybody", Houses::busy, Promise.STATE, x -> x.exercise(0, 4, 1));
    }

    private static void refusedOver() {
        P.says("the contract is over");
        P.refused("by one who had lots", Houses::busy, Promise.STATE, x -> x.exercise(0, 2, 1));
        Houses.Setup american = () -> {
            Strikehall x = owed(0, true);
            x.close();
            return x;
        };
        P.refused("AMERICAN", american, Promise.STATE, x -> x.exercise(0, 0, 1));
    }

    private static void refusedNotToday() {
        P.says("or is not AMERICAN and its expiry is not today");
        P.refused("two days ahead", Houses::busy, Promise.STATE, x -> x.exercise(5, 1, 1));
        P.refused("a day ahead", () -> owed(1, false), Promise.STATE, x -> x.exercise(0, 0, 1));
    }

    private static void severalExceptions() {
        P.says("if several exceptions apply, the one that its throws clause names first is thrown");
        P.refused("no such holder, all besides", Houses::busy, Promise.INDEX, x -> x.exercise(-2, 2, 1001));
        P.refused("no such contract, all besides", Houses::busy, Promise.INDEX, x -> x.exercise(-1, 5, 0));
        P.refused("fewer, over, out of range", Houses::busy, Promise.ARGUMENT, x -> x.exercise(-1, 2, 1001));
        P.refused("fewer, not today, out of range", Houses::busy, Promise.ARGUMENT, x -> x.exercise(2, 1, 0));
        P.refused("fewer, over", Houses::busy, Promise.STATE, x -> x.exercise(-1, 2, 1000));
        P.refused("fewer, not today", Houses::busy, Promise.STATE, x -> x.exercise(2, 1, 1000));
    }

    private static void whoOwesPays() {
        P.says("who owes it pays");
        Strikehall x = owed(5, true);
        x.exercise(0, 0, 10);
        P.same("10 lots that pay 100, cash(0)", x.cash(0), -1000000 + 1000000);
        P.same("2 owed, cash(1)", x.cash(1), 200000 - 200000);
        P.same("3 owed, cash(4)", x.cash(4), 300000 - 300000);
        P.same("5 owed, cash(NONE)", x.cash(-1), 500000 - 500000);
        Strikehall y = owed(5, true);
        y.move(9900);
        y.exercise(0, 0, 10);
        P.same("10 lots that pay nothing, cash(0)", y.cash(0), -1000000);
        P.same("they are gone, lots(1, 0)", y.lots(1, 0), 0);
    }
}
