/** Promise 3, move: its ends, what it returns, what is refused. */
public final class Promise03Test {
    private static final Promise P = new Promise(3);

    public static void main(String[] args) {
        price();
        refused();
        returned();
        returnedAtTheMost();
        dividendsAreNotInIt();
        P.end();
    }

    private static void price() {
        P.says("`price`: 0 to 20000");
        Strikehall x = new Strikehall();
        x.contract(Strikehall.CALL, 0, 0, false);
        P.same("move(0)", x.move(0), 0);
        P.same("at 0, mark", x.mark(0), 0);
        x.move(1);
        P.same("at 1, mark", x.mark(0), 1000);
        x.move(19999);
        P.same("at 19999, mark", x.mark(0), 19999000);
        x.move(20000);
        P.same("at 20000, mark", x.mark(0), 20000000);
    }

    private static void refused() {
        P.says("Throws `IllegalArgumentException` if price is out of range");
        P.refusedEach("move", Houses::busy, Promise.ARGUMENT, (x, price) -> x.move(price),
                -1, 20001, Promise.LEAST, Promise.MOST);
    }

    private static void returned() {
        P.says("Returns what the house is worth more by that, which can be below 0.");
        Strikehall x = new Strikehall();
        x.hedge(1, 0);
        P.same("to the same price", x.move(10000), 0);
        P.same("a share, a cent more", x.move(10001), 1000);
        P.same("a share, a cent less", x.move(10000), -1000);
        P.same("cause(1)", x.cause(1), 0);
        P.answers("without lots or shares", Houses::one, h -> h.move(0), 0);
    }

    private static void returnedAtTheMost() {
        P.says("`long move(int price) throws IllegalArgumentException`: Moves the price.");
        Strikehall x = new Strikehall();
        for (int ten = 0; ten < 10; ten++) {
            x.hedge(10000, 0);
        }
        P.same("100000 shares, to 20000", x.move(20000), 1000000000000L);
        P.same("100000 shares, to 0", x.move(0), -2000000000000L);
        P.same("cause(1)", x.cause(1), -1000000000000L);
        P.same("worth()", x.worth(), -1000000000000L);
    }

    private static void dividendsAreNotInIt() {
        P.says("its dividend, if there is one, is not in the price: that moves when it is told to");
        Strikehall x = new Strikehall();
        x.contract(Strikehall.CALL, 0, 1, false);
        x.dividend(1, 1000);
        x.close();
        P.same("on the day of the dividend, mark", x.mark(0), 10000000);
        x.move(9000);
        P.same("moved, mark", x.mark(0), 9000000);
    }
}
