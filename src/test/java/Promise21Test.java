/** Promise 21, cash: whose it is, none yet, below 0, beyond an int, what is refused. */
public final class Promise21Test {
    private static final Promise P = new Promise(21);

    public static void main(String[] args) {
        holder();
        none();
        refused();
        much();
        thousandths();
        customers();
        P.end();
    }

    private static void holder() {
        P.says("`long cash(int holder) throws IndexOutOfBoundsException`: Returns the cash of a customer, or of the house, "
                + "for NONE.");
        Strikehall x = Houses.quoted(5, 6, 100);
        for (int customer = 0; customer <= 5; customer++) {
            x.order(customer, 0, customer - 10, 5);
        }
        for (int customer = 0; customer <= 5; customer++) {
            P.same("cash(" + customer + ")", x.cash(customer), 5000 * (10 - customer));
        }
        P.same("cash(NONE)", x.cash(Strikehall.NONE), -5000 * 45);
    }

    private static void none() {
        P.says("and cash, in thousandths of cents, 0 at first");
        for (int holder = -1; holder <= 5; holder++) {
            int who = holder;
            P.answers("cash(" + holder + ")", Houses::empty, x -> x.cash(who), 0);
            P.answers("cash(" + holder + "), a quote is no money", () -> Houses.quoted(5, 6, 7), x -> x.cash(who), 0);
        }
    }

    private static void refused() {
        P.says("@throws IndexOutOfBoundsException if there is no such customer, but for NONE");
        P.refusedEach("holder", Houses::busy, Promise.INDEX, (x, who) -> x.cash(who), -2, 6, Promise.LEAST, Promise.MOST);
        P.refusedEach("holder", Houses::empty, Promise.INDEX, (x, who) -> x.cash(who), -2, 6);
    }

    private static void much() {
        P.says("Money goes from one to the other: 1000 times the price for each lot.");
        Strikehall x = Houses.one();
        for (int order = 1; order <= 40; order++) {
            x.quote(0, 20000, 20000, 100);
            x.order(0, 0, 100, 20000);
            x.order(1, 0, -100, 0);
        }
        P.same("80 thousand million paid, cash(0)", x.cash(0), -80000000000L);
        P.same("80 thousand million got, cash(1)", x.cash(1), 80000000000L);
        P.same("cash(NONE)", x.cash(-1), 0);
        for (int ten = 0; ten < 10; ten++) {
            x.hedge(10000, 10000);
        }
        P.same("100000 shares bought, cash(NONE)", x.cash(-1), -1000000000000L - 1000000000L);
    }

    private static void thousandths() {
        P.says("and pays a cost for each, 500 at first, in thousandths");
        Strikehall x = new Strikehall();
        x.hedge(1, 1);
        P.same("a cost of 1, cash(NONE)", x.cash(-1), -10000001);
        x.hedge(-1, 1);
        P.same("a cost of 1, to sell, cash(NONE)", x.cash(-1), -2);
    }

    private static void customers() {
        P.says("Customers are 0 to 5");
        P.answers("the first", Houses::busy, x -> x.cash(0), -1200000 - 280000 + 200000);
        P.answers("the last", Houses::busy, x -> x.cash(5), -550000 + 160000);
        P.refused("a seventh", Houses::busy, Promise.INDEX, x -> x.cash(6));
        P.refused("one below the house", Houses::busy, Promise.INDEX, x -> x.cash(-2));
    }
}
