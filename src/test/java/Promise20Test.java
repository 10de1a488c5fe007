/** Promise 20, lots: whose they are, none yet, below 0, gone, what is refused. */
public final class Promise20Test {
    private static final Promise P = new Promise(20);

    public static void main(String[] args) {
        holder();
        contract();
        none();
        together();
        beyondTheLimit();
        gone();
        refused();
        P.end();
    }

    private static void holder() {
        P.says("`holder`: 0 to 5, or NONE for the house");
        Strikehall x = Houses.quoted(5, 6, 100);
        for (int customer = 0; customer <= 5; customer++) {
            x.order(customer, 0, customer + 1, 6);
        }
        for (int customer = 0; customer <= 5; customer++) {
            P.same("lots(" + customer + ", 0)", x.lots(customer, 0), customer + 1);
        }
        P.same("lots(NONE, 0)", x.lots(Strikehall.NONE, 0), -21);
        P.refusedEach("holder", Houses::busy, Promise.INDEX, (h, who) -> h.lots(who, 0),
                -2, 6, Promise.LEAST, Promise.MOST);
    }

    private static void contract() {
        P.says("`contract`: the number of a contract");
        Strikehall x = Houses.full();
        x.quote(0, 5, 6, 7);
        x.quote(11, 5, 6, 7);
        x.order(0, 0, 1, 6);
        x.order(0, 11, -2, 5);
        P.same("the first of 12", x.lots(0, 0), 1);
        P.same("the last of 12", x.lots(0, 11), -2);
        P.same("another", x.lots(0, 1), 0);
        for (int holder : new int[] {-1, 0, 5}) {
            P.refusedEach("contract", Houses::busy, Promise.INDEX, (h, c) -> h.lots(holder, c),
                    -1, Houses.BUSY_CONTRACTS, Promise.LEAST, Promise.MOST);
            P.refusedEach("contract, of 12", Houses::full, Promise.INDEX, (h, c) -> h.lots(holder, c), -1, 12);
            P.refusedEach("contract, of none", Houses::empty, Promise.INDEX, (h, c) -> h.lots(holder, c), 0);
        }
    }

    private static void none() {
        P.says("`int lots(int holder, int contract) throws IndexOutOfBoundsException`: Returns the lots of somebody.");
        Strikehall x = Houses.quoted(5, 6, 10);
        for (int holder = -1; holder <= 5; holder++) {
            P.same("nothing dealt yet, lots(" + holder + ", 0)", x.lots(holder, 0), 0);
        }
        x.order(3, 0, 1, 6);
        x.order(3, 0, -1, 5);
        for (int holder = -1; holder <= 5; holder++) {
            P.same("bought and sold, lots(" + holder + ", 0)", x.lots(holder, 0), 0);
        }
    }

    private static void together() {
        P.says("below 0 if it owes them, all of one contract 0 together");
        Strikehall x = Houses.busy();
        x.exercise(0, 0, 3);
        for (int c = 0; c < Houses.BUSY_CONTRACTS; c++) {
            long all = 0;
            for (int holder = -1; holder <= 5; holder++) {
                all += x.lots(holder, c);
            }
            P.same("contract " + c, all, 0);
        }
        P.same("one who owes", x.lots(2, 1), -3);
    }

    /** Customers have no limit: one buys what another sells, by way of the house. */
    private static void beyondTheLimit() {
        P.says("each, and the house, has lots of each contract");
        Strikehall x = Houses.one();
        x.limit(1000);
        for (int order = 1; order <= 30; order++) {
            x.quote(0, 1, 2, 100);
            x.order(0, 0, 100, 2);
            x.order(1, 0, -100, 1);
        }
        P.same("3000 lots", x.lots(0, 0), 3000);
        P.same("3000 lots owed", x.lots(1, 0), -3000);
        P.same("none of the house", x.lots(-1, 0), 0);
    }

    private static void gone() {
        P.says("all other lots are gone then");
        Strikehall x = Houses.busy();
        for (int holder = -1; holder <= 5; holder++) {
            P.same("over, lots(" + holder + ", 2)", x.lots(holder, 2), 0);
        }
        P.same("on its expiry", x.lots(2, 3), 6);
        x.close();
        for (int holder = -1; holder <= 5; holder++) {
            P.same("over, lots(" + holder + ", 3)", x.lots(holder, 3), 0);
        }
    }

    private static void refused() {
        P.says("Throws `IndexOutOfBoundsException` if there is no such customer, but for NONE, or contract");
        P.refused("both", Houses::busy, Promise.INDEX, x -> x.lots(6, 5));
        P.refused("holder, of one that is over", Houses::busy, Promise.INDEX, x -> x.lots(-2, 2));
        P.answers("NONE", Houses::busy, x -> x.lots(Strikehall.NONE, 0), -1);
    }
}
