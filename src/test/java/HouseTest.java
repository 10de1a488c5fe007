/** Promises 10 and 20 to 24: hedges, lots, cash, worth, causes, risk. */
public final class HouseTest {
    private static final Class<?> ARGUMENT = IllegalArgumentException.class;
    private static final Class<?> INDEX = IndexOutOfBoundsException.class;
    private static final Check CHECK = new Check();

    public static void main(String[] args) {
        hedge();
        hedgeToTheEnds();
        wrongHedges();
        lotsAndCash();
        worth();
        causes();
        causeOfCloses();
        causeOfEarlyExercise();
        worst();
        worstBeyondThePrices();
        wrongWorsts();
        CHECK.end("HouseTest");
    }

    private static void hedge() {
        Strikehall x = new Strikehall();
        CHECK.same("hedge(10, 100)", x.hedge(10, 100), 10);
        CHECK.same("cash(NONE)", x.cash(-1), -100000000L - 1000);
        CHECK.same("worth()", x.worth(), -1000);
        CHECK.same("hedge(-4, 0)", x.hedge(-4, 0), 6);
        CHECK.same("cash(NONE)", x.cash(-1), -60000000L - 1000);
        CHECK.same("hedge(-16, 10000)", x.hedge(-16, 10000), -10);
        CHECK.same("cash(NONE)", x.cash(-1), 100000000L - 1000 - 160000);
        CHECK.same("hedge(0, 10000)", x.hedge(0, 10000), -10);
        CHECK.same("worth()", x.worth(), -161000);
        CHECK.same("cause(3)", x.cause(3), -161000);
        x.move(20000);
        CHECK.same("hedge(1, 1)", x.hedge(1, 1), -9);
        CHECK.same("cause(3)", x.cause(3), -161001);
        CHECK.same("cash(0)", x.cash(0), 0);
    }

    private static void hedgeToTheEnds() {
        Strikehall x = new Strikehall();
        for (int ten = 1; ten <= 10; ten++) {
            CHECK.same("hedge(10000, 0)", x.hedge(10000, 0), 10000 * ten);
        }
        CHECK.fails(x, 0, "hedge(1, 0) to 100001", ARGUMENT, () -> x.hedge(1, 0));
        CHECK.fails(x, 0, "hedge(10000, 0) to 110000", ARGUMENT, () -> x.hedge(10000, 0));
        for (int ten = 9; ten >= -10; ten--) {
            CHECK.same("hedge(-10000, 0)", x.hedge(-10000, 0), 10000 * ten);
        }
        CHECK.fails(x, 0, "hedge(-1, 0) to -100001", ARGUMENT, () -> x.hedge(-1, 0));
        CHECK.same("hedge(0, 7)", x.hedge(0, 7), -100000);
        x.move(20000);
        CHECK.same("worth()", x.worth(), -1000000000000L);
    }

    private static void wrongHedges() {
        Strikehall x = new Strikehall();
        for (int wrong : new int[] {10001, -10001, Integer.MIN_VALUE, Integer.MAX_VALUE}) {
            CHECK.fails(x, 0, "hedge(" + wrong + ", 0)", ARGUMENT, () -> x.hedge(wrong, 0));
        }
        for (int wrong : new int[] {-1, 10001, Integer.MIN_VALUE, Integer.MAX_VALUE}) {
            CHECK.fails(x, 0, "hedge(5, " + wrong + ")", ARGUMENT, () -> x.hedge(5, wrong));
            CHECK.fails(x, 0, "hedge(0, " + wrong + ")", ARGUMENT, () -> x.hedge(0, wrong));
        }
        CHECK.same("hedge(5, 3), behind the wrong ones", x.hedge(5, 3), 5);
        CHECK.same("worth()", x.worth(), -15);
    }

    private static void lotsAndCash() {
        Strikehall x = new Strikehall();
        x.contract(0, 10000, 0, false);
        x.quote(0, 0, 1, 50);
        for (int customer = 0; customer < 6; customer++) {
            x.order(customer, 0, customer + 1, 1);
        }
        for (int customer = 0; customer < 6; customer++) {
            CHECK.same("lots(" + customer + ", 0)", x.lots(customer, 0), customer + 1);
            CHECK.same("cash(" + customer + ")", x.cash(customer), -1000 * (customer + 1));
        }
        CHECK.same("lots(NONE, 0)", x.lots(-1, 0), -21);
        CHECK.same("cash(NONE)", x.cash(-1), 21000);
        for (int wrong : new int[] {-2, 6, Integer.MIN_VALUE, Integer.MAX_VALUE}) {
            CHECK.fails(x, 1, "lots(" + wrong + ", 0)", INDEX, () -> x.lots(wrong, 0));
            CHECK.fails(x, 1, "cash(" + wrong + ")", INDEX, () -> x.cash(wrong));
        }
        for (int wrong : new int[] {-1, 1, Integer.MIN_VALUE, Integer.MAX_VALUE}) {
            CHECK.fails(x, 1, "lots(0, " + wrong + ")", INDEX, () -> x.lots(0, wrong));
            CHECK.fails(x, 1, "lots(NONE, " + wrong + ")", INDEX, () -> x.lots(-1, wrong));
        }
    }

    private static void worth() {
        Strikehall x = new Strikehall();
        x.steps(1, 2);
        x.contract(0, 10000, 1, false);
        x.contract(1, 10005, 0, false);
        x.quote(0, 5, 8, 100);
        x.quote(1, 3, 7, 100);
        x.order(0, 0, 3, 8);
        CHECK.same("3 lots sold, marks of 6666", x.worth(), 24000 - 3 * 6666);
        x.order(0, 0, -5, 5);
        CHECK.same("2 lots bought, marks of 6666", x.worth(), 24000 - 25000 + 2 * 6666);
        x.order(1, 1, 4, 7);
        CHECK.same("4 lots sold, marks of 5000", x.worth(), -1000 + 13332 + 28000 - 20000);
        x.hedge(2, 11);
        CHECK.same("2 shares", x.worth(), 20332 - 22);
        CHECK.same("move(9990)", x.move(9990), -2 * 6666 - 4 * 10000 - 20000 + 2 * 0);
        CHECK.same("worth()", x.worth(), 20310 - 73332);
        Strikehall y = new Strikehall();
        y.contract(0, 9900, 0, false);
        y.quote(0, 40, 70, 5);
        y.order(0, 0, -1, 40);
        CHECK.same("1 lot bought, a mark of 100000", y.worth(), 60000);
        y.order(0, 0, 2, 70);
        CHECK.same("1 lot sold, a mark of 100000", y.worth(), 0);
    }

    private static void causeIs(Strikehall x, String when, long... due) {
        long all = 0;
        for (int cause = 0; cause < 6; cause++) {
            CHECK.same(when + ", cause(" + cause + ")", x.cause(cause), due[cause]);
            all += due[cause];
        }
        CHECK.same(when + ", worth()", x.worth(), all);
    }

    private static void causes() {
        Strikehall x = new Strikehall();
        x.contract(0, 10000, 2, false);
        causeIs(x, "a contract", 0, 0, 0, 0, 0, 0);
        x.quote(0, 45, 60, 100);
        causeIs(x, "a quote", 0, 0, 0, 0, 0, 0);
        x.order(0, 0, 10, 60);
        causeIs(x, "an order", 100000, 0, 0, 0, 0, 0);
        x.order(0, 0, -4, 45);
        causeIs(x, "an order", 120000, 0, 0, 0, 0, 0);
        x.move(10200);
        causeIs(x, "a move", 120000, -900000, 0, 0, 0, 0);
        x.hedge(-10, 100);
        causeIs(x, "shares", 120000, -900000, 0, -1000, 0, 0);
        x.dividend(1, 50);
        causeIs(x, "a dividend", 120000, -900000, 0, -1000, 0, 225000);
        x.close();
        causeIs(x, "a day", 120000, -900000, -225000, -1000, 0, 225000);
        x.steps(1, 3);
        causeIs(x, "steps", 120000, -900000, -225000, -1000, 0, 225000);
        x.limit(3);
        x.seed(9);
        x.contrary(0, 0, true);
        x.kill();
        causeIs(x, "what changes no worth", 120000, -900000, -225000, -1000, 0, 225000);
        x.close();
        x.close();
        causeIs(x, "an expiry, with a notice", 120000, -900000, -225000, -1000, 1200000, 225000);
        for (int wrong : new int[] {-1, 6, Integer.MIN_VALUE, Integer.MAX_VALUE}) {
            CHECK.fails(x, 1, "cause(" + wrong + ")", INDEX, () -> x.cause(wrong));
        }
    }

    /** The expiry comes ahead of the day that goes by: each has its part of one close(). */
    private static void causeOfCloses() {
        Strikehall x = new Strikehall();
        x.contract(0, 9900, 0, false);
        x.contract(0, 10000, 1, false);
        x.contract(0, 10000, 2, false);
        for (int c = 0; c < 3; c++) {
            x.quote(c, 50, 100, 100);
            x.order(0, c, 2, 100);
        }
        x.contrary(0, 0, true);
        causeIs(x, "orders", 0 + 100000 + 100000, 0, 0, 0, 0, 0);
        x.close();
        causeIs(x, "an expiry and a day", 200000, 0, 100000 + 0, 0, 200000, 0);
        x.close();
        causeIs(x, "another day", 200000, 0, 200000, 0, 200000, 0);
        x.close();
        causeIs(x, "the last of them", 200000, 0, 200000, 0, 200000, 0);
    }

    private static void causeOfEarlyExercise() {
        Strikehall x = new Strikehall();
        x.contract(0, 9990, 2, true);
        x.quote(0, 50, 60, 100);
        x.order(0, 0, 1, 60);
        x.order(1, 0, 1, 60);
        CHECK.same("mark", x.mark(0), 57500);
        causeIs(x, "orders", 5000, 0, 0, 0, 0, 0);
        x.exercise(0, 0, 1);
        causeIs(x, "early exercise", 5000, 0, 0, 0, 47500, 0);
        x.exercise(1, 0, 1);
        causeIs(x, "early exercise", 5000, 0, 0, 0, 95000, 0);
    }

    private static void worst() {
        Strikehall x = new Strikehall();
        x.contract(0, 10000, 0, false);
        x.contract(1, 10000, 0, false);
        x.quote(0, 5, 6, 100);
        x.quote(1, 5, 6, 100);
        CHECK.same("without lots", x.worst(100), 0);
        x.order(0, 0, 3, 6);
        CHECK.same("worst(0)", x.worst(0), 0);
        CHECK.same("calls owed, worst(1)", x.worst(1), 30000);
        CHECK.same("calls owed, worst(100)", x.worst(100), 3000000);
        x.order(0, 1, 5, 6);
        CHECK.same("puts owed besides, worst(1)", x.worst(1), 50000);
        CHECK.same("puts owed besides, worst(100)", x.worst(100), 5000000);
        x.hedge(-4, 0);
        CHECK.same("shares owed besides, worst(1)", x.worst(1), 70000);
        x.order(0, 0, -8, 5);
        x.order(0, 1, -10, 5);
        x.hedge(4, 0);
        CHECK.same("it has both", x.worst(100), 0);
        CHECK.same("worst() changes nothing", x.cause(1), 0);
        worstInTheMiddle();
    }

    /** The house is worth the least 3 steps above, and more again beyond. */
    private static void worstInTheMiddle() {
        Strikehall x = new Strikehall();
        x.contract(0, 10030, 0, false);
        x.contract(0, 10000, 0, false);
        x.quote(0, 5, 6, 100);
        x.quote(1, 5, 6, 100);
        x.order(0, 1, 2, 6);
        x.order(0, 0, -4, 5);
        CHECK.same("worst(2)", x.worst(2), 40000);
        CHECK.same("worst(3)", x.worst(3), 60000);
        CHECK.same("worst(4)", x.worst(4), 60000);
        CHECK.same("worst(100)", x.worst(100), 60000);
        x.steps(3, 5);
        x.contract(1, 10000, 10, true);
        CHECK.same("contracts without lots count nothing", x.worst(100), 60000);
    }

    private static void worstBeyondThePrices() {
        Strikehall x = new Strikehall();
        x.contract(1, 0, 0, false);
        x.quote(0, 5, 6, 100);
        x.order(0, 0, 1, 6);
        x.move(0);
        CHECK.same("at 0, puts owed", x.worst(100), 1000000);
        x.hedge(2, 0);
        CHECK.same("at 0, shares besides", x.worst(7), 210000);
        x.move(20000);
        x.hedge(-3, 0);
        CHECK.same("at 20000, a share owed", x.worst(100), 1000000);
    }

    private static void wrongWorsts() {
        Strikehall x = new Strikehall();
        x.hedge(1, 0);
        for (int wrong : new int[] {-1, 101, Integer.MIN_VALUE, Integer.MAX_VALUE}) {
            CHECK.fails(x, 0, "worst(" + wrong + ")", ARGUMENT, () -> x.worst(wrong));
        }
        CHECK.same("worst(100)", x.worst(100), 1000000);
    }
}
