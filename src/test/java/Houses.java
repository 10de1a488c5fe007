/** Houses to begin a test with. */
final class Houses {
    /** A house, made anew by each call, always the same. */
    interface Setup {
        Strikehall make();
    }

    /** How many contracts the house of busy() has. */
    static final int BUSY_CONTRACTS = 5;

    private Houses() {
    }

    static Strikehall empty() {
        return new Strikehall();
    }

    /** One contract, a CALL of 10000 two days ahead that is not AMERICAN, with a mark of 50000. */
    static Strikehall one() {
        Strikehall x = new Strikehall();
        x.contract(Strikehall.CALL, 10000, 2, false);
        return x;
    }

    /** The same contract, quoted. */
    static Strikehall quoted(int bid, int ask, int size) {
        Strikehall x = one();
        x.quote(0, bid, ask, size);
        return x;
    }

    static Strikehall full() {
        Strikehall x = new Strikehall();
        for (int c = 0; c < 12; c++) {
            x.contract(c % 2, 9000 + 100 * c, c % 11, c % 3 == 0);
        }
        return x;
    }

    static Strikehall onDay(int day) {
        Strikehall x = new Strikehall();
        for (int closed = 0; closed < day; closed++) {
            x.close();
        }
        return x;
    }

    /**
     * A house in the midst of things, on day 1, with something in each of its parts. Contract 0 is
     * AMERICAN, 1 is not, 2 is over, 3 expires today, 4 is AMERICAN and has no quote and no lots.
     */
    static Strikehall busy() {
        Strikehall x = new Strikehall();
        x.contract(Strikehall.CALL, 9900, 5, true);
        x.contract(Strikehall.PUT, 10100, 3, false);
        x.contract(Strikehall.CALL, 9950, 0, false);
        x.contract(Strikehall.PUT, 10050, 1, false);
        x.contract(Strikehall.CALL, 10000, 10, true);
        x.quote(0, 100, 120, 50);
        x.quote(1, 90, 110, 20);
        x.quote(2, 60, 70, 10);
        x.quote(3, 40, 60, 30);
        x.order(0, 0, 10, 120);
        x.order(1, 0, -7, 100);
        x.order(4, 0, -2, 100);
        x.order(5, 1, 5, 110);
        x.order(2, 1, -3, 90);
        x.order(0, 2, 4, 70);
        x.order(3, 2, -2, 60);
        x.order(2, 3, 6, 60);
        x.order(5, 3, -4, 40);
        x.dividend(3, 40);
        x.dividend(150, 9);
        x.steps(3, 7);
        x.limit(60);
        x.seed(42);
        x.contrary(5, 1, true);
        x.contrary(0, 3, true);
        x.hedge(5, 100);
        x.close();
        x.move(10020);
        return x;
    }
}
