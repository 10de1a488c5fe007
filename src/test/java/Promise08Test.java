/** Promise 8, limit: its ends, the one before, what is refused. */
public final class Promise08Test {
    private static final Promise P = new Promise(8);

    public static void main(String[] args) {
        lots();
        before();
        refused();
        eachContract();
        nothingIsTakenBack();
        P.end();
    }

    private static void lots() {
        P.says("`lots`: 0 to 1000");
        Strikehall x = Houses.quoted(5, 6, 100);
        x.limit(0);
        P.same("0, to buy", x.order(0, 0, 1, 6), 0);
        P.same("0, to sell", x.order(0, 0, -1, 5), 0);
        x.limit(1);
        P.same("1, to buy", x.order(0, 0, 2, 6), 1);
        x.limit(1000);
        for (int order = 0; order < 9; order++) {
            x.quote(0, 5, 6, 100);
            P.same("1000, to buy", x.order(0, 0, 100, 6), 100);
        }
        x.quote(0, 5, 6, 100);
        P.same("1000, the last ones", x.order(0, 0, 100, 6), 99);
        P.same("1000, of the house", x.lots(-1, 0), -1000);
        P.refusedEach("lots", Houses::busy, Promise.ARGUMENT, (h, lots) -> h.limit(lots),
                -1, 1001, Promise.LEAST, Promise.MOST);
    }

    private static void before() {
        P.says("`int limit(int lots) throws IllegalArgumentException`: Sets the limit of the house for each contract.");
        P.says("Returns the one before.");
        Strikehall x = new Strikehall();
        P.same("limit(1000)", x.limit(1000), 100);
        P.same("limit(0)", x.limit(0), 1000);
        P.same("limit(0) again", x.limit(0), 0);
        P.same("limit(7)", x.limit(7), 0);
        P.same("limit(7) again", x.limit(7), 7);
    }

    private static void refused() {
        P.says("Throws `IllegalArgumentException` if lots is out of range");
        P.refused("on a new house", Houses::empty, Promise.ARGUMENT, x -> x.limit(1001));
        P.refused("on a new house", Houses::empty, Promise.ARGUMENT, x -> x.limit(-1));
    }

    private static void eachContract() {
        P.says("Sets the limit of the house for each contract.");
        Strikehall x = Houses.one();
        x.contract(Strikehall.PUT, 10000, 2, false);
        x.quote(0, 5, 6, 100);
        x.quote(1, 5, 6, 100);
        x.limit(3);
        P.same("contract 0", x.order(0, 0, 5, 6), 3);
        P.same("contract 1, by itself", x.order(0, 1, -5, 5), 3);
        P.same("contract 0, no more by another one", x.order(1, 0, 1, 6), 0);
    }

    private static void nothingIsTakenBack() {
        P.says("if they are more already, they may become fewer");
        Strikehall x = Houses.quoted(5, 6, 100);
        x.order(0, 0, 50, 6);
        x.limit(10);
        P.same("lots stay", x.lots(-1, 0), -50);
        P.same("no more", x.order(0, 0, 1, 6), 0);
        P.same("fewer", x.order(0, 0, -1, 5), 1);
    }
}
