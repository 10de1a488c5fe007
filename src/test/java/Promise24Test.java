/** Promise 24, worst: the ends of its number, prices beyond the ends, never worth less. */
public final class Promise24Test {
    private static final Promise P = new Promise(24);

    public static void main(String[] args) {
        most();
        refused();
        never();
        upOrDown();
        belowZero();
        above20000();
        lattices();
        changesNothing();
        P.end();
    }

    /** A PUT or CALL of today, of which the house has, or owes, some lots. */
    private static Strikehall with(int kind, int strike, int lots) {
        Strikehall x = new Strikehall();
        x.contract(kind, strike, 0, false);
        x.quote(0, 0, 0, 100);
        x.order(0, 0, -lots, 0);
        return x;
    }

    private static void most() {
        P.says("`most`: 0 to 100: up to so many, up or down");
        Strikehall x = with(Strikehall.CALL, 10000, -1);
        P.same("0", x.worst(0), 0);
        P.same("1", x.worst(1), 10000);
        P.same("99", x.worst(99), 990000);
        P.same("100", x.worst(100), 1000000);
        Strikehall y = with(Strikehall.CALL, 10995, -1);
        P.same("99 are not enough", y.worst(99), 0);
        P.same("100 are", y.worst(100), 5000);
        Strikehall z = with(Strikehall.PUT, 9005, -1);
        P.same("99 down are not enough", z.worst(99), 0);
        P.same("100 down are", z.worst(100), 5000);
    }

    private static void refused() {
        P.says("Throws `IllegalArgumentException` if most is out of range");
        P.refusedEach("most", Houses::busy, Promise.ARGUMENT, (x, most) -> x.worst(most),
                -1, 101, Promise.LEAST, Promise.MOST);
        P.refusedEach("most", Houses::empty, Promise.ARGUMENT, (x, most) -> x.worst(most), -1, 101);
    }

    private static void never() {
        P.says("Returns that, 0 if it is never worth less.");
        P.answers("nothing", Houses::empty, x -> x.worst(100), 0);
        P.answers("no lots", Houses::full, x -> x.worst(100), 0);
        P.answers("a CALL that pays nothing", () -> with(Strikehall.CALL, 10000, 1), x -> x.worst(100), 0);
        P.answers("a PUT that pays nothing", () -> with(Strikehall.PUT, 10000, 1), x -> x.worst(100), 0);
        P.answers("a CALL that pays 1", () -> with(Strikehall.CALL, 9999, 1), x -> x.worst(100), 1000);
    }

    private static void upOrDown() {
        P.says("by how much the house is worth less, at the most, if the price were other by some steps of 10 cents");
        P.answers("a share had", Houses::empty, x -> x.hedge(1, 0) * x.worst(3), 30000);
        P.answers("a share owed", Houses::empty, x -> -x.hedge(-1, 0) * x.worst(3), 30000);
        Strikehall x = with(Strikehall.CALL, 10020, 2);
        x.hedge(-1, 0);
        // it is worth the least 2 steps up
        P.same("1 step", x.worst(1), 10000);
        P.same("2 steps", x.worst(2), 20000);
        P.same("3 steps", x.worst(3), 20000);
        P.same("100 steps", x.worst(100), 20000);
        Strikehall y = with(Strikehall.CALL, 10015, 2);
        y.hedge(-1, 0);
        P.same("the least is between two steps", y.worst(100), 10000);
    }

    private static void belowZero() {
        P.says("also below 0");
        Strikehall x = with(Strikehall.PUT, 0, -1);
        x.move(0);
        P.same("1 step below 0", x.worst(1), 10000);
        P.same("100 steps below 0", x.worst(100), 1000000);
        x.move(995);
        P.same("99 steps are not", x.worst(99), 0);
        P.same("100 steps are, by 5 cents", x.worst(100), 5000);
        Strikehall y = new Strikehall();
        y.move(0);
        y.hedge(1, 0);
        P.same("a share", y.worst(100), 1000000);
    }

    private static void above20000() {
        P.says("or above 20000");
        Strikehall x = with(Strikehall.CALL, 20000, -1);
        x.move(20000);
        P.same("1 step above 20000", x.worst(1), 10000);
        P.same("100 steps above 20000", x.worst(100), 1000000);
        x.move(19005);
        P.same("99 steps are not", x.worst(99), 0);
        P.same("100 steps are, by 5 cents", x.worst(100), 5000);
    }

    private static void lattices() {
        P.says("risk over moves of the share");
        Strikehall x = Houses.quoted(45, 60, 20);
        x.order(0, 0, 2, 60);
        // at 10010: up up pays 210, up down 10, down up 10: 230 of 4
        P.same("1 step", x.worst(1), 2 * 7500);
        // at 10100: 300, 100 and 100 of 4
        P.same("10 steps", x.worst(10), 2 * 75000);
        Strikehall y = Houses.one();
        y.contract(Strikehall.PUT, 20000, 10, true);
        y.quote(1, 0, 0, 100);
        y.order(0, 1, 100, 0);
        y.move(0);
        for (int day = 1; day <= 10; day++) {
            y.dividend(day, 1000);
        }
        P.same("100 lots owed, each 1000 cents more", y.worst(100), 100000000);
    }

    private static void changesNothing() {
        P.says("`long worst(int most) throws IllegalArgumentException`");
        P.alike("asked", Houses::busy, () -> {
            Strikehall x = Houses.busy();
            x.worst(100);
            return x;
        });
    }
}
