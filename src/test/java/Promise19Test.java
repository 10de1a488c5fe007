/** Promise 19, quoted: never quoted, taken away, used up, over; what is refused, what comes first. */
public final class Promise19Test {
    private static final Promise P = new Promise(19);

    public static void main(String[] args) {
        contract();
        what();
        without();
        usedUp();
        over();
        refusedIndex();
        refusedWhat();
        P.end();
    }

    private static void isQuoted(String call, Strikehall x, int... due) {
        for (int what = 0; what < 4; what++) {
            P.same(call + ", quoted(0, " + what + ")", x.quoted(0, what), due[what]);
        }
    }

    private static void contract() {
        P.says("`contract`: the number of a contract");
        Strikehall x = Houses.full();
        x.quote(11, 1, 2, 3);
        P.same("the first of 12", x.quoted(0, 1), 0);
        P.same("the last of 12", x.quoted(11, 1), 2);
        P.refusedEach("contract", Houses::busy, Promise.INDEX, (h, c) -> h.quoted(c, 0),
                -1, Houses.BUSY_CONTRACTS, Promise.LEAST, Promise.MOST);
        P.refusedEach("contract, of 12", Houses::full, Promise.INDEX, (h, c) -> h.quoted(c, 0), -1, 12);
    }

    private static void what() {
        P.says("`what`: 0 the bid, 1 the ask, 2 what is left of the size for the bid, 3 of that for the ask");
        P.says("`int quoted(int contract, int what) throws IndexOutOfBoundsException, IllegalArgumentException`: "
                + "Tells of a quote.");
        Strikehall x = Houses.quoted(45, 60, 100);
        isQuoted("as it is told", x, 45, 60, 100, 100);
        x.order(0, 0, 7, 60);
        isQuoted("7 bought", x, 45, 60, 100, 93);
        x.order(0, 0, -12, 45);
        isQuoted("12 sold", x, 45, 60, 88, 93);
        isQuoted("0 and 20000", Houses.quoted(0, 20000, 1), 0, 20000, 1, 1);
        isQuoted("20000 and 0", Houses.quoted(20000, 0, 1), 20000, 0, 1, 1);
        P.refusedEach("what", Houses::busy, Promise.ARGUMENT, (h, what) -> h.quoted(0, what),
                -1, 4, Promise.LEAST, Promise.MOST);
    }

    private static void without() {
        P.says("Returns as told; 0 without a quote.");
        isQuoted("never quoted", Houses.one(), 0, 0, 0, 0);
        isQuoted("of size 0", Houses.quoted(45, 60, 0), 0, 0, 0, 0);
        Strikehall x = Houses.quoted(45, 60, 9);
        x.quote(0, 45, 60, 0);
        isQuoted("taken away", x, 0, 0, 0, 0);
        x.quote(0, 45, 60, 9);
        x.order(0, 0, 2, 60);
        x.kill();
        isQuoted("killed", x, 0, 0, 0, 0);
        x.quote(0, 46, 61, 8);
        isQuoted("quoted again", x, 46, 61, 8, 8);
    }

    /** Used up on both sides, a quote is none any more; with something left on one side it stands. */
    private static void usedUp() {
        P.says("a quote is firm till it is told anew, taken away, or used up");
        usedUpTheAskFirst();
        usedUpTheBidFirst();
        usedUpAlone();
        notUsedUpByTheLimit();
        P.alike("used up with nothing else behind it, or taken away", () -> boughtAndSold(3), () -> {
            Strikehall x = boughtAndSold(4);
            x.quote(0, 45, 60, 0);
            return x;
        });
        P.alike("it takes no part in faults", () -> {
            Strikehall x = Houses.quoted(60, 60, 1);
            x.order(0, 0, 1, 60);
            x.order(0, 0, -1, 60);
            return x;
        }, Houses::one);
    }

    private static Strikehall boughtAndSold(int size) {
        Strikehall x = Houses.quoted(45, 60, size);
        x.order(0, 0, 3, 60);
        x.order(1, 0, -3, 45);
        return x;
    }

    private static void usedUpTheAskFirst() {
        Strikehall x = Houses.quoted(45, 60, 2);
        x.order(0, 0, 2, 60);
        isQuoted("nothing left for the ask", x, 45, 60, 2, 0);
        x.order(0, 0, 1, 20000);
        isQuoted("nothing left for the ask, nothing dealt", x, 45, 60, 2, 0);
        x.order(0, 0, -1, 45);
        isQuoted("1 left for the bid", x, 45, 60, 1, 0);
        x.order(0, 0, -2, 45);
        isQuoted("nothing left of both", x, 0, 0, 0, 0);
        x.quote(0, 44, 59, 1);
        isQuoted("told anew", x, 44, 59, 1, 1);
    }

    private static void usedUpTheBidFirst() {
        Strikehall x = Houses.quoted(45, 60, 100);
        x.limit(1000);
        x.order(3, 0, -100, 45);
        isQuoted("nothing left for the bid", x, 45, 60, 0, 100);
        x.order(3, 0, -1, 0);
        isQuoted("nothing left for the bid, nothing dealt", x, 45, 60, 0, 100);
        x.order(4, 0, 99, 60);
        isQuoted("1 left for the ask", x, 45, 60, 0, 1);
        x.order(5, 0, 1, 59);
        isQuoted("1 left for the ask, the limit was less", x, 45, 60, 0, 1);
        x.order(5, 0, 1, 60);
        isQuoted("nothing left of both", x, 0, 0, 0, 0);
    }

    private static void usedUpAlone() {
        Strikehall x = Houses.quoted(45, 60, 1);
        x.contract(Strikehall.CALL, 10000, 2, false);
        x.quote(1, 46, 61, 1);
        x.order(0, 1, 1, 61);
        x.order(0, 1, -1, 46);
        isQuoted("another one is used up", x, 45, 60, 1, 1);
        P.same("the other one's bid", x.quoted(1, 0), 0);
        P.same("the other one's ask", x.quoted(1, 1), 0);
    }

    private static void notUsedUpByTheLimit() {
        Strikehall x = Houses.quoted(45, 60, 5);
        x.limit(4);
        x.order(0, 0, 5, 60);
        isQuoted("1 left for the ask, the limit of the house does not let it", x, 45, 60, 5, 1);
        x.limit(0);
        x.order(0, 0, -5, 45);
        isQuoted("1 left of each", x, 45, 60, 1, 1);
    }

    private static void over() {
        P.says("its quote is taken away");
        Strikehall x = new Strikehall();
        x.contract(Strikehall.CALL, 10000, 1, false);
        x.quote(0, 45, 60, 9);
        x.close();
        isQuoted("on its expiry", x, 45, 60, 9, 9);
        x.close();
        isQuoted("behind it", x, 0, 0, 0, 0);
    }

    private static void refusedIndex() {
        P.says("Throws `IndexOutOfBoundsException` if there is no such contract");
        P.refused("what besides", Houses::busy, Promise.INDEX, x -> x.quoted(5, 4));
        P.refused("what besides", Houses::busy, Promise.INDEX, x -> x.quoted(-1, -1));
        P.refused("no contracts", Houses::empty, Promise.INDEX, x -> x.quoted(0, 0));
    }

    private static void refusedWhat() {
        P.says("Throws `IllegalArgumentException` if what is out of range");
        P.refused("without a quote", Houses::one, Promise.ARGUMENT, x -> x.quoted(0, 4));
        P.refused("of one that is over", Houses::busy, Promise.ARGUMENT, x -> x.quoted(2, -1));
        P.answers("of one that is over, in range", Houses::busy, x -> x.quoted(2, 3), 0);
    }
}
