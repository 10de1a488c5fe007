/** Promise 2, steps: their ends, and what is refused. */
public final class Promise02Test {
    private static final Promise P = new Promise(2);

    public static void main(String[] args) {
        up();
        down();
        refusedBoth();
        whatItChanges();
        whatItLeaves();
        allToCome();
        P.end();
    }

    /** A step up pays 10 times up; one down pays nothing. */
    private static Strikehall house() {
        Strikehall x = new Strikehall();
        x.contract(Strikehall.CALL, 10000, 1, false);
        x.contract(Strikehall.CALL, 9990, 1, false);
        return x;
    }

    private static void part(String call, Strikehall x, int contract, long above, long below) {
        P.same(call + ", value above", x.value(contract, false), above);
        P.same(call + ", value below", x.value(contract, true), below);
    }

    private static void up() {
        P.says("`up`: 1 to 10: tens of cents");
        Strikehall x = house();
        x.steps(1, 2);
        part("steps(1, 2)", x, 0, 20, 3);
        x.steps(10, 2);
        part("steps(10, 2)", x, 0, 50, 3);
        P.refusedEach("steps(up, 2)", Houses::busy, Promise.ARGUMENT, (h, up) -> { h.steps(up, 2); return 0; },
                0, 11, -1, Promise.LEAST, Promise.MOST);
    }

    private static void down() {
        P.says("`down`: 1 to 10: likewise");
        Strikehall x = house();
        // a step down by 10 pays nothing of 9990, one up by 20 pays 30
        x.steps(2, 1);
        part("steps(2, 1)", x, 1, 10, 1);
        x.steps(2, 10);
        part("steps(2, 10)", x, 1, 25, 1);
        P.refusedEach("steps(2, down)", Houses::busy, Promise.ARGUMENT, (h, down) -> { h.steps(2, down); return 0; },
                0, 11, -1, Promise.LEAST, Promise.MOST);
    }

    private static void refusedBoth() {
        P.says("Throws `IllegalArgumentException` if up or down is out of range");
        P.refused("steps(0, 11)", Houses::busy, Promise.ARGUMENT, h -> { h.steps(0, 11); return 0; });
        P.refused("steps(11, 0)", Houses::busy, Promise.ARGUMENT, h -> { h.steps(11, 0); return 0; });
        P.refused("steps(0, 1), without contracts", Houses::empty, Promise.ARGUMENT, h -> { h.steps(0, 1); return 0; });
    }

    private static void whatItChanges() {
        P.says("`void steps(int up, int down) throws IllegalArgumentException`: Tells the steps.");
        for (int[] ends : new int[][] {{1, 1}, {1, 10}, {10, 1}, {10, 10}}) {
            Strikehall x = house();
            x.steps(ends[0], ends[1]);
            // down times 10 times up, of up and down: 10/2, 100/11, 100/11, 1000/20
            P.same("the mark", x.mark(0), 10000 * ends[0] * ends[1] / (ends[0] + ends[1]));
        }
    }

    private static void whatItLeaves() {
        P.says("5 steps and dividends that are told");
        Strikehall x = Houses.quoted(40, 60, 10);
        x.order(0, 0, 2, 60);
        x.steps(10, 10);
        P.same("the same steps, cause(5)", x.cause(5), 0);
        x.close();
        x.close();
        x.steps(1, 1);
        P.same("on the day of expiry, cause(5)", x.cause(5), 0);
        x.close();
        x.steps(2, 9);
        P.same("of one that is over, cause(5)", x.cause(5), 0);
        P.same("of one that is over, mark", x.mark(0), 0);
    }

    /** Each day to come goes by the steps of now, those that a contract was made with are gone. */
    private static void allToCome() {
        P.says("All to come goes by steps and dividends as they are told now");
        Strikehall x = new Strikehall();
        x.steps(10, 1);
        x.contract(Strikehall.CALL, 10000, 3, false);
        x.close();
        x.steps(2, 2);
        // up up pays 40, by a quarter
        part("two days ahead", x, 0, 10, 1);
        x.close();
        x.steps(1, 4);
        // up pays 10, by 4 of 5
        part("a day ahead", x, 0, 8, 1);
    }
}
