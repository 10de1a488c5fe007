/** Promise 22, worth: nothing, below 0, marks rounded down, beyond an int. */
public final class Promise22Test {
    private static final Promise P = new Promise(22);

    public static void main(String[] args) {
        nothing();
        eachPart();
        roundedDown();
        over();
        theMost();
        theLeast();
        askingChangesNothing();
        P.end();
    }

    private static void nothing() {
        P.says("`long worth()`: Returns what the house is worth.");
        P.answers("no contracts", Houses::empty, x -> x.worth(), 0);
        P.answers("12 contracts, no lots", Houses::full, x -> x.worth(), 0);
        P.answers("a quote", () -> Houses.quoted(5, 6, 7), x -> x.worth(), 0);
        Strikehall x = Houses.quoted(5, 6, 7);
        x.order(0, 0, 3, 6);
        x.order(1, 0, -3, 5);
        P.same("lots of customers alone", x.worth(), 3000);
    }

    private static void eachPart() {
        P.says("What it is worth is its cash, its lots times their marks, and its shares times 1000 times the price.");
        Strikehall x = Houses.quoted(45, 60, 20);
        x.order(0, 0, 1, 60);
        P.same("a lot owed", x.worth(), 60000 - 50000);
        x.order(0, 0, -2, 45);
        P.same("a lot had", x.worth(), 60000 - 90000 + 50000);
        x.hedge(1, 7);
        P.same("a share", x.worth(), 20000 - 7);
        x.move(0);
        P.same("at 0", x.worth(), -30000 - 10000000 - 7);
        x.hedge(-2, 0);
        P.same("a share owed at 0", x.worth(), -30000 - 10000000 - 7);
        x.move(1);
        P.same("a share owed at 1", x.worth(), -31000 - 10000000 - 7);
    }

    private static void roundedDown() {
        P.says("Its mark is 1000 times its value, rounded down.");
        Strikehall x = new Strikehall();
        x.steps(1, 2);
        x.contract(Strikehall.CALL, 10000, 1, false);
        x.quote(0, 0, 0, 10);
        x.order(0, 0, -3, 0);
        P.same("3 lots of 20 of 3", x.worth(), 3 * 6666);
        x.order(0, 0, 6, 0);
        P.same("3 lots owed of 20 of 3", x.worth(), -3 * 6666);
    }

    private static void over() {
        P.says("all other lots are gone then");
        Strikehall x = new Strikehall();
        x.contract(Strikehall.CALL, 9900, 0, false);
        x.quote(0, 0, 0, 10);
        x.order(0, 0, 3, 0);
        P.same("on its expiry", x.worth(), -300000);
        x.contrary(0, 0, true);
        x.close();
        P.same("behind it, with a notice", x.worth(), 0);
    }

    private static Strikehall with(int shares, int lots, int price) {
        Strikehall x = new Strikehall();
        x.limit(1000);
        for (int c = 0; c < 12; c++) {
            x.contract(Strikehall.CALL, 0, 0, false);
            for (int order = 0; order < 10; order++) {
                x.quote(c, 0, 0, 100);
                x.order(0, c, lots, 0);
            }
        }
        x.move(0);
        for (int ten = 0; ten < 10; ten++) {
            x.hedge(shares, 0);
        }
        x.move(price);
        return x;
    }

    private static void theMost() {
        P.says("its shares times 1000 times the price");
        // 100000 shares and 12000 lots, each 20000
        P.same("the most", with(10000, -100, 20000).worth(), 112000L * 20000000L);
    }

    private static void theLeast() {
        P.says("its lots times their marks");
        P.same("the least", with(-10000, 100, 20000).worth(), -112000L * 20000000L);
        P.same("at 0", with(-10000, 100, 0).worth(), 0);
    }

    private static void askingChangesNothing() {
        P.says("Steps, dividends, contracts, quotes, orders, notices and days come by calls; values, faults, positions, "
                + "risks and causes are asked.");
        P.alike("asked", Houses::busy, () -> {
            Strikehall x = Houses.busy();
            Snapshot.of(x, Houses.BUSY_CONTRACTS);
            return x;
        });
    }
}
