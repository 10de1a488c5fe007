/** Promise 9, order: the ends of its numbers, of size and limit, what is refused, what comes first. */
public final class Promise09Test {
    private static final Promise P = new Promise(9);

    public static void main(String[] args) {
        customer();
        contract();
        lots();
        limitOfPrice();
        atTheAsk();
        atTheBid();
        sizeLeft();
        usedUp();
        limitOfTheHouse();
        beyondTheLimit();
        money();
        dropped();
        nothingDealt();
        refusedIndex();
        refusedArguments();
        refusedOver();
        severalExceptions();
        P.end();
    }

    private static void customer() {
        P.says("`customer`: 0 to 5");
        for (int customer = 0; customer <= 5; customer++) {
            Strikehall x = Houses.quoted(45, 60, 20);
            P.same("buys", x.order(customer, 0, 2, 60), 2);
            for (int other = 0; other <= 5; other++) {
                P.same("lots(" + other + ", 0)", x.lots(other, 0), other == customer ? 2 : 0);
                P.same("cash(" + other + ")", x.cash(other), other == customer ? -120000 : 0);
            }
        }
        P.refusedEach("customer", Houses::busy, Promise.INDEX, (x, who) -> x.order(who, 0, 1, 120),
                Strikehall.NONE, 6, -2, Promise.LEAST, Promise.MOST);
    }

    private static void contract() {
        P.says("`contract`: the number of a contract");
        Strikehall x = Houses.full();
        x.quote(0, 5, 6, 7);
        x.quote(11, 5, 6, 7);
        P.same("the first", x.order(0, 0, 1, 6), 1);
        P.same("the last", x.order(0, 11, 2, 6), 2);
        P.same("lots of the last", x.lots(0, 11), 2);
        P.refusedEach("contract", Houses::busy, Promise.INDEX, (h, c) -> h.order(0, c, 1, 120),
                -1, Houses.BUSY_CONTRACTS, Promise.LEAST, Promise.MOST);
        P.refusedEach("contract", Houses::full, Promise.INDEX, (h, c) -> h.order(0, c, 1, 120), -1, 12);
        P.refused("no contracts", Houses::empty, Promise.INDEX, h -> h.order(0, 0, 1, 120));
    }

    private static void lots() {
        P.says("`lots`: -100 to 100, not 0: to buy, or, below 0, to sell");
        P.answers("100", () -> Houses.quoted(5, 6, 100), x -> x.order(0, 0, 100, 6), 100);
        P.answers("-100", () -> Houses.quoted(5, 6, 100), x -> x.order(0, 0, -100, 5), 100);
        P.answers("1", () -> Houses.quoted(5, 6, 100), x -> x.order(0, 0, 1, 6), 1);
        P.answers("-1", () -> Houses.quoted(5, 6, 100), x -> x.order(0, 0, -1, 5), 1);
        P.refusedEach("lots", Houses::busy, Promise.ARGUMENT, (x, lots) -> x.order(0, 0, lots, 110),
                0, 101, -101, Promise.LEAST, Promise.MOST);
        P.refusedEach("lots, without a quote", Houses::one, Promise.ARGUMENT, (x, lots) -> x.order(0, 0, lots, 110),
                0, 101, -101);
    }

    private static void limitOfPrice() {
        P.says("`limit`: 0 to 20000: a price in cents");
        P.answers("20000, to buy", () -> Houses.quoted(0, 20000, 5), x -> x.order(0, 0, 1, 20000), 1);
        P.answers("0, to buy", () -> Houses.quoted(0, 0, 5), x -> x.order(0, 0, 1, 0), 1);
        P.answers("20000, to sell", () -> Houses.quoted(20000, 20000, 5), x -> x.order(0, 0, -1, 20000), 1);
        P.answers("0, to sell", () -> Houses.quoted(0, 20000, 5), x -> x.order(0, 0, -1, 0), 1);
        P.refusedEach("limit, to buy", Houses::busy, Promise.ARGUMENT, (x, limit) -> x.order(0, 0, 1, limit),
                -1, 20001, Promise.LEAST, Promise.MOST);
        P.refusedEach("limit, to sell", Houses::busy, Promise.ARGUMENT, (x, limit) -> x.order(0, 0, -1, limit),
                -1, 20001, Promise.LEAST, Promise.MOST);
    }

    private static void atTheAsk() {
        P.says("buys lots at the ask, if its limit is not less");
        P.answers("a limit of 59", () -> Houses.quoted(45, 60, 20), x -> x.order(0, 0, 3, 59), 0);
        P.answers("a limit of 60", () -> Houses.quoted(45, 60, 20), x -> x.order(0, 0, 3, 60), 3);
        P.answers("a limit of 61", () -> Houses.quoted(45, 60, 20), x -> x.order(0, 0, 3, 61), 3);
        Strikehall x = Houses.quoted(45, 60, 20);
        x.order(0, 0, 3, 20000);
        P.same("it is dealt at the ask", x.cash(0), -180000);
        P.same("the ask's size", x.quoted(0, 3), 17);
        P.same("the bid's size", x.quoted(0, 2), 20);
    }

    private static void atTheBid() {
        P.says("or sells them at the bid, if its limit is not more");
        P.answers("a limit of 46", () -> Houses.quoted(45, 60, 20), x -> x.order(0, 0, -3, 46), 0);
        P.answers("a limit of 45", () -> Houses.quoted(45, 60, 20), x -> x.order(0, 0, -3, 45), 3);
        P.answers("a limit of 44", () -> Houses.quoted(45, 60, 20), x -> x.order(0, 0, -3, 44), 3);
        Strikehall x = Houses.quoted(45, 60, 20);
        x.order(0, 0, -3, 0);
        P.same("it is dealt at the bid", x.cash(0), 135000);
        P.same("the bid's size", x.quoted(0, 2), 17);
        P.same("the ask's size", x.quoted(0, 3), 20);
    }

    private static void sizeLeft() {
        P.says("as many as the size has left on that side");
        P.answers("19 of 20", () -> Houses.quoted(45, 60, 20), x -> x.order(0, 0, 19, 60), 19);
        P.answers("20 of 20", () -> Houses.quoted(45, 60, 20), x -> x.order(0, 0, 20, 60), 20);
        P.answers("21 of 20", () -> Houses.quoted(45, 60, 20), x -> x.order(0, 0, 21, 60), 20);
        P.answers("-20 of 20", () -> Houses.quoted(45, 60, 20), x -> x.order(0, 0, -20, 45), 20);
        P.answers("-21 of 20", () -> Houses.quoted(45, 60, 20), x -> x.order(0, 0, -21, 45), 20);
        Strikehall x = Houses.quoted(45, 60, 1);
        P.same("1 of 1", x.order(0, 0, 1, 60), 1);
        P.same("1 of 0", x.order(0, 0, 1, 60), 0);
        P.same("the other side has its own", x.order(0, 0, -1, 45), 1);
        P.same("-1 of 0", x.order(0, 0, -1, 45), 0);
        P.answers("without a quote", Houses::one, h -> h.order(0, 0, 1, 20000), 0);
        P.answers("without a quote", Houses::one, h -> h.order(0, 0, -1, 0), 0);
    }

    private static void usedUp() {
        P.says("a quote is firm till it is told anew, taken away, or used up");
        Strikehall x = Houses.quoted(45, 60, 2);
        x.order(0, 0, 2, 60);
        x.order(1, 0, -2, 45);
        P.same("used up, to buy", x.order(0, 0, 1, 20000), 0);
        P.same("used up, to sell", x.order(0, 0, -1, 0), 0);
        P.same("nothing is left for the bid", x.quoted(0, 2), 0);
        P.same("nothing is left for the ask", x.quoted(0, 3), 0);
        P.same("no bid", x.quoted(0, 0), 0);
        P.same("no ask", x.quoted(0, 1), 0);
        x.quote(0, 45, 60, 1);
        P.same("told anew", x.order(0, 0, 2, 60), 1);
    }

    private static void limitOfTheHouse() {
        P.says("so that its lots of the contract are, in size, at most that");
        Strikehall x = Houses.quoted(5, 6, 100);
        x.limit(10);
        P.same("to 9 below 0", x.order(0, 0, 9, 6), 9);
        P.same("to 10 below 0", x.order(0, 0, 2, 6), 1);
        P.same("no more", x.order(1, 0, 1, 6), 0);
        P.same("from there to 10 above 0", x.order(1, 0, -21, 5), 20);
        P.same("no more", x.order(1, 0, -1, 5), 0);
        P.same("lots of the house", x.lots(-1, 0), 10);
        P.same("the size is used by what is dealt alone", x.quoted(0, 2), 80);
        P.same("the size is used by what is dealt alone", x.quoted(0, 3), 90);
        x.limit(11);
        P.same("one more", x.order(1, 0, -5, 5), 1);
    }

    private static void beyondTheLimit() {
        P.says("if they are more already, they may become fewer");
        Strikehall x = Houses.quoted(5, 6, 100);
        x.order(0, 0, 30, 6);
        x.limit(29);
        P.same("not more", x.order(0, 0, 1, 6), 0);
        x.limit(0);
        P.same("not more", x.order(0, 0, 1, 6), 0);
        P.same("fewer by 1", x.order(0, 0, -1, 5), 1);
        P.same("to the limit, 0", x.order(0, 0, -100, 5), 29);
        P.same("at the limit, 0", x.order(0, 0, -1, 5), 0);
        P.same("at the limit, 0", x.order(0, 0, 1, 6), 0);
        Strikehall y = Houses.quoted(5, 6, 100);
        y.order(0, 0, -30, 5);
        y.limit(29);
        P.same("not more", y.order(0, 0, -1, 5), 0);
        P.same("fewer by 1", y.order(0, 0, 1, 6), 1);
        P.same("at the limit, not more", y.order(0, 0, -1, 5), 0);
        P.same("to the limit on the other side", y.order(0, 0, 100, 6), 58);
        P.same("lots of the house", y.lots(-1, 0), -29);
    }

    private static void money() {
        P.says("Money goes from one to the other: 1000 times the price for each lot.");
        Strikehall x = Houses.one();
        x.limit(1000);
        for (int order = 1; order <= 3; order++) {
            x.quote(0, 20000, 20000, 100);
            P.same("100 lots at 20000", x.order(0, 0, 100, 20000), 100);
            P.same("cash(0)", x.cash(0), -2000000000L * order);
            P.same("cash(NONE)", x.cash(-1), 2000000000L * order);
        }
        Strikehall y = Houses.quoted(0, 0, 100);
        P.same("100 lots at 0", y.order(0, 0, 100, 0), 100);
        P.same("cash(0)", y.cash(0), 0);
        P.same("lots(0, 0)", y.lots(0, 0), 100);
    }

    private static void dropped() {
        P.says("What is not dealt is dropped.");
        Strikehall x = Houses.quoted(45, 60, 2);
        P.same("5 of 2", x.order(0, 0, 5, 60), 2);
        x.quote(0, 45, 60, 10);
        P.same("lots(0, 0)", x.lots(0, 0), 2);
        P.same("the new size", x.quoted(0, 3), 10);
    }

    private static void nothingDealt() {
        P.says("Returns how many lots are dealt, 0 or above.");
        P.says("`int order(int customer, int contract, int lots, int limit) throws IndexOutOfBoundsException, "
                + "IllegalArgumentException, IllegalStateException`: Orders.");
        P.alike("0 dealt", () -> Houses.quoted(45, 60, 2), () -> {
            Strikehall x = Houses.quoted(45, 60, 2);
            P.same("a limit below the ask", x.order(0, 0, 1, 59), 0);
            P.same("a limit above the bid", x.order(0, 0, -1, 46), 0);
            return x;
        });
        P.answers("on the day of expiry", Houses::busy, x -> x.order(4, 3, 1, 60), 1);
    }

    private static void refusedIndex() {
        P.says("Throws `IndexOutOfBoundsException` if there is no such customer or contract");
        P.refused("customer, lots besides", Houses::busy, Promise.INDEX, x -> x.order(6, 0, 0, 110));
        P.refused("customer, limit besides", Houses::busy, Promise.INDEX, x -> x.order(-1, 0, 1, -1));
        P.refused("customer, over besides", Houses::busy, Promise.INDEX, x -> x.order(6, 2, 1, 110));
        P.refused("contract, lots besides", Houses::busy, Promise.INDEX, x -> x.order(0, 5, 101, 110));
        P.refused("contract, limit besides", Houses::busy, Promise.INDEX, x -> x.order(0, -1, 1, 20001));
        P.refused("both", Houses::busy, Promise.INDEX, x -> x.order(6, 5, 0, -1));
    }

    private static void refusedArguments() {
        P.says("Throws `IllegalArgumentException` if lots or limit is out of range");
        P.refused("lots, over besides", Houses::busy, Promise.ARGUMENT, x -> x.order(0, 2, 0, 110));
        P.refused("lots, over besides", Houses::busy, Promise.ARGUMENT, x -> x.order(0, 2, 101, 110));
        P.refused("lots, over besides", Houses::busy, Promise.ARGUMENT, x -> x.order(0, 2, -101, 110));
        P.refused("limit, over besides", Houses::busy, Promise.ARGUMENT, x -> x.order(0, 2, 1, -1));
        P.refused("limit, over besides", Houses::busy, Promise.ARGUMENT, x -> x.order(0, 2, -1, 20001));
    }

    private static void refusedOver() {
        P.says("Throws `IllegalStateException` if it is over");
        P.refused("to buy", Houses::busy, Promise.STATE, x -> x.order(0, 2, 1, 20000));
        P.refused("to sell", Houses::busy, Promise.STATE, x -> x.order(0, 2, -1, 0));
        P.refused("by one who had lots", Houses::busy, Promise.STATE, x -> x.order(3, 2, 100, 0));
    }

    private static void severalExceptions() {
        P.says("if several exceptions apply, the one that its throws clause names first is thrown");
        P.refused("no such customer, all besides", Houses::busy, Promise.INDEX, x -> x.order(6, 2, 0, -1));
        P.refused("no such contract, all besides", Houses::busy, Promise.INDEX, x -> x.order(5, 5, 0, -1));
        P.refused("over, all besides", Houses::busy, Promise.ARGUMENT, x -> x.order(5, 2, 0, -1));
        P.refused("over alone", Houses::busy, Promise.STATE, x -> x.order(5, 2, -100, 20000));
    }
}
