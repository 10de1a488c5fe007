/** Promise 6, quote: the ends of its numbers, quotes anew and away, faults, what comes first. */
public final class Promise06Test {
    private static final Promise P = new Promise(6);

    public static void main(String[] args) {
        contract();
        bid();
        ask();
        size();
        sizeOfZero();
        toldAnew();
        firstFault();
        refusedContract();
        refusedArguments();
        refusedOver();
        onTheDayOfExpiry();
        bothSides();
        severalExceptions();
        P.end();
    }

    private static void isQuoted(String call, Strikehall x, int contract, int... due) {
        for (int what = 0; what < 4; what++) {
            P.same(call + ", quoted(" + contract + ", " + what + ")", x.quoted(contract, what), due[what]);
        }
    }

    private static void contract() {
        P.says("`contract`: the number of a contract");
        Strikehall x = Houses.full();
        x.quote(0, 1, 2, 3);
        x.quote(11, 4, 5, 6);
        isQuoted("the first", x, 0, 1, 2, 3, 3);
        isQuoted("the last", x, 11, 4, 5, 6, 6);
        isQuoted("another", x, 1, 0, 0, 0, 0);
        P.refusedEach("of 5, contract", Houses::busy, Promise.INDEX, (h, c) -> h.quote(c, 1, 2, 3),
                -1, Houses.BUSY_CONTRACTS, Promise.LEAST, Promise.MOST);
        P.refusedEach("of 12, contract", Houses::full, Promise.INDEX, (h, c) -> h.quote(c, 1, 2, 3), -1, 12);
    }

    private static void bid() {
        P.says("`bid`: 0 to 20000");
        Strikehall x = Houses.one();
        P.same("0", x.quote(0, 0, 5, 1), 0);
        isQuoted("0", x, 0, 0, 5, 1, 1);
        P.same("20000", x.quote(0, 20000, 5, 1), 1);
        isQuoted("20000", x, 0, 20000, 5, 1, 1);
        P.refusedEach("bid", Houses::busy, Promise.ARGUMENT, (h, bid) -> h.quote(0, bid, 5, 1),
                -1, 20001, Promise.LEAST, Promise.MOST);
    }

    private static void ask() {
        P.says("`ask`: 0 to 20000");
        Strikehall x = Houses.one();
        P.same("0", x.quote(0, 5, 0, 1), 1);
        isQuoted("0", x, 0, 5, 0, 1, 1);
        P.same("20000", x.quote(0, 5, 20000, 1), 0);
        isQuoted("20000", x, 0, 5, 20000, 1, 1);
        P.refusedEach("ask", Houses::busy, Promise.ARGUMENT, (h, ask) -> h.quote(0, 5, ask, 1),
                -1, 20001, Promise.LEAST, Promise.MOST);
    }

    private static void size() {
        P.says("`size`: 0 to 100: of both sides");
        isQuoted("1", Houses.quoted(5, 6, 1), 0, 5, 6, 1, 1);
        isQuoted("100", Houses.quoted(5, 6, 100), 0, 5, 6, 100, 100);
        P.refusedEach("size", Houses::busy, Promise.ARGUMENT, (h, size) -> h.quote(0, 5, 6, size),
                -1, 101, Promise.LEAST, Promise.MOST);
    }

    private static void sizeOfZero() {
        P.says("0 takes the quote away");
        Strikehall x = Houses.quoted(6, 6, 100);
        P.same("the fault goes with it", x.quote(0, 6, 6, 0), 0);
        isQuoted("taken away", x, 0, 0, 0, 0, 0);
        P.same("nothing is dealt", x.order(0, 0, 1, 20000), 0);
        P.same("nothing is dealt", x.order(0, 0, -1, 0), 0);
        P.same("kill()", x.kill(), 0);
        P.alike("without a quote", Houses::one, () -> Houses.quoted(7, 7, 0));
        P.refused("a bid out of range", Houses::busy, Promise.ARGUMENT, h -> h.quote(0, 20001, 6, 0));
        P.refused("an ask out of range", Houses::busy, Promise.ARGUMENT, h -> h.quote(0, 5, -1, 0));
    }

    private static void toldAnew() {
        P.says("a quote is firm till it is told anew, taken away, or used up");
        Strikehall x = Houses.quoted(5, 6, 10);
        x.order(0, 0, 4, 6);
        x.order(0, 0, -3, 5);
        isQuoted("partly used", x, 0, 5, 6, 7, 6);
        x.move(0);
        x.steps(1, 1);
        x.close();
        isQuoted("prices, steps and days leave it", x, 0, 5, 6, 7, 6);
        x.quote(0, 7, 9, 2);
        isQuoted("told anew", x, 0, 7, 9, 2, 2);
        P.same("the new size is all", x.order(0, 0, 10, 9), 2);
        P.same("the new size is all", x.order(0, 0, -10, 7), 2);
        x.quote(0, 7, 9, 1);
        isQuoted("told anew, used up before", x, 0, 7, 9, 1, 1);
    }

    private static void firstFault() {
        P.says("Returns the first fault of all quotes then, 1 to 4; 0, if there is none.");
        P.says("`int quote(int contract, int bid, int ask, int size) throws IndexOutOfBoundsException, "
                + "IllegalArgumentException, IllegalStateException`: Quotes a contract.");
        Strikehall x = new Strikehall();
        x.contract(Strikehall.CALL, 10000, 5, true);
        x.contract(Strikehall.CALL, 10100, 5, true);
        x.contract(Strikehall.CALL, 10200, 5, true);
        x.contract(Strikehall.CALL, 10000, 6, true);
        P.same("none", x.quote(0, 90, 100, 1), 0);
        P.same("none", x.quote(1, 61, 70, 1), 0);
        P.same("4, of another than is quoted first", x.quote(3, 50, 60, 1), 4);
        P.same("3 and 4", x.quote(2, 10, 20, 1), 3);
        P.same("2, 3 and 4", x.quote(2, 71, 80, 1), 2);
        P.same("1 to 4", x.quote(3, 60, 60, 1), 1);
        P.same("1 to 4, of another contract that is quoted", x.quote(0, 90, 100, 1), 1);
    }

    private static void refusedContract() {
        P.says("Throws `IndexOutOfBoundsException` if there is no such contract");
        P.refused("bid besides", Houses::busy, Promise.INDEX, x -> x.quote(5, -1, 6, 7));
        P.refused("ask besides", Houses::busy, Promise.INDEX, x -> x.quote(-1, 5, 20001, 7));
        P.refused("size besides", Houses::busy, Promise.INDEX, x -> x.quote(5, 5, 6, 101));
        P.refused("no contracts, size 0", Houses::empty, Promise.INDEX, x -> x.quote(0, 5, 6, 0));
    }

    private static void refusedArguments() {
        P.says("Throws `IllegalArgumentException` if bid, ask or size is out of range");
        P.refused("it is over, bid", Houses::busy, Promise.ARGUMENT, x -> x.quote(2, -1, 6, 7));
        P.refused("it is over, ask", Houses::busy, Promise.ARGUMENT, x -> x.quote(2, 5, 20001, 7));
        P.refused("it is over, size", Houses::busy, Promise.ARGUMENT, x -> x.quote(2, 5, 6, 101));
        P.refused("it is over, size", Houses::busy, Promise.ARGUMENT, x -> x.quote(2, 5, 6, -1));
    }

    private static void refusedOver() {
        P.says("Throws `IllegalStateException` if it is over");
        P.refused("a quote", Houses::busy, Promise.STATE, x -> x.quote(2, 5, 6, 7));
        P.refused("a quote taken away", Houses::busy, Promise.STATE, x -> x.quote(2, 0, 0, 0));
    }

    private static void onTheDayOfExpiry() {
        P.says("A contract is over as its expiry is closed");
        P.answers("on the day of its expiry", Houses::busy, x -> x.quote(3, 50, 60, 1), 0);
        P.answers("on day 200, of 200", () -> {
            Strikehall x = Houses.onDay(200);
            x.contract(Strikehall.CALL, 10000, 200, false);
            return x;
        }, x -> x.quote(0, 6, 6, 1), 1);
    }

    private static void bothSides() {
        P.says("The house quotes a contract: a bid and an ask, in cents, and a size for both");
        Strikehall x = Houses.quoted(5, 6, 3);
        P.same("all of the ask", x.order(0, 0, 4, 6), 3);
        P.same("all of the bid nonetheless", x.order(0, 0, -4, 5), 3);
        isQuoted("used up, it is no quote any more", x, 0, 0, 0, 0, 0);
    }

    private static void severalExceptions() {
        P.says("if several exceptions apply, the one that its throws clause names first is thrown");
        P.refused("no such contract, all out of range", Houses::busy, Promise.INDEX, x -> x.quote(-1, -1, 20001, 101));
        P.refused("over, all out of range", Houses::busy, Promise.ARGUMENT, x -> x.quote(2, -1, 20001, 101));
        P.refused("over alone", Houses::busy, Promise.STATE, x -> x.quote(2, 0, 20000, 100));
    }
}
