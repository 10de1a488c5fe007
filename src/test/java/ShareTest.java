/** Promises 1 to 5 and 15 to 17: a new object, the share, contracts, their values and marks. */
public final class ShareTest {
    private static final Class<?> ARGUMENT = IllegalArgumentException.class;
    private static final Class<?> STATE = IllegalStateException.class;
    private static final Class<?> INDEX = IndexOutOfBoundsException.class;
    private static final Check CHECK = new Check();

    public static void main(String[] args) {
        newObject();
        steps();
        move();
        dividend();
        contract();
        contractsAreFull();
        lastDays();
        valuesOfParts();
        valuesBelowZero();
        americanValues();
        overValues();
        longestLattice();
        CHECK.end("ShareTest");
    }

    private static void newObject() {
        Strikehall x = new Strikehall();
        CHECK.same("new, worth()", x.worth(), 0);
        for (int holder = -1; holder < 6; holder++) {
            CHECK.same("new, cash(" + holder + ")", x.cash(holder), 0);
        }
        for (int cause = 0; cause < 6; cause++) {
            CHECK.same("new, cause(" + cause + ")", x.cause(cause), 0);
        }
        CHECK.same("new, fault()", x.fault(), 0);
        CHECK.same("new, kill()", x.kill(), 0);
        CHECK.same("new, worst(100)", x.worst(100), 0);
        CHECK.same("new, limit(7)", x.limit(7), 100);
        CHECK.fails(x, 0, "new, mark(0)", INDEX, () -> x.mark(0));
        CHECK.same("new, contract", x.contract(0, 9000, 0, true), 0);
        CHECK.same("new, the price is 10000", x.mark(0), 1000000);
    }

    private static void steps() {
        Strikehall x = new Strikehall();
        x.contract(0, 10000, 1, false);
        CHECK.same("steps 10, 10: mark", x.mark(0), 50000);
        x.steps(3, 7);
        CHECK.same("steps(3, 7): mark", x.mark(0), 21000);
        CHECK.same("steps(3, 7): value", x.value(0, false), 21);
        x.steps(1, 1);
        CHECK.same("steps(1, 1): mark", x.mark(0), 5000);
        x.steps(10, 1);
        CHECK.same("steps(10, 1): mark", x.mark(0), 9090);
        CHECK.same("steps(10, 1): value above", x.value(0, false), 100);
        CHECK.same("steps(10, 1): value below", x.value(0, true), 11);
        for (int wrong : new int[] {0, 11, -1, Integer.MIN_VALUE, Integer.MAX_VALUE}) {
            CHECK.fails(x, 1, "steps(" + wrong + ", 5)", ARGUMENT, () -> { x.steps(wrong, 5); return 0; });
            CHECK.fails(x, 1, "steps(5, " + wrong + ")", ARGUMENT, () -> { x.steps(5, wrong); return 0; });
        }
        CHECK.same("steps, causes without lots", x.cause(5), 0);
        x.quote(0, 20, 30, 10);
        x.order(0, 0, 10, 30);
        x.steps(10, 10);
        CHECK.same("steps(10, 10): cause(5)", x.cause(5), -10 * (50000 - 9090));
    }

    private static void move() {
        Strikehall x = new Strikehall();
        x.contract(0, 10000, 0, false);
        x.quote(0, 1, 2, 10);
        x.order(0, 0, 4, 2);
        CHECK.same("move(10005)", x.move(10005), -20000);
        CHECK.same("move(9000)", x.move(9000), 20000);
        CHECK.same("move(0)", x.move(0), 0);
        CHECK.same("move(20000)", x.move(20000), -40000000L);
        CHECK.same("moves, cause(1)", x.cause(1), -40000000L);
        for (int wrong : new int[] {-1, 20001, Integer.MIN_VALUE, Integer.MAX_VALUE}) {
            CHECK.fails(x, 1, "move(" + wrong + ")", ARGUMENT, () -> x.move(wrong));
        }
        x.hedge(10, 0);
        CHECK.same("move(19999), with shares", x.move(19999), 4000 - 10000);
    }

    private static void dividend() {
        Strikehall x = new Strikehall();
        x.contract(0, 9000, 3, false);
        CHECK.same("dividend(1, 50)", x.dividend(1, 50), 0);
        CHECK.same("dividend(1, 50): mark", x.mark(0), 950000);
        CHECK.same("dividend(1, 70)", x.dividend(1, 70), 50);
        CHECK.same("dividend(1, 70): mark", x.mark(0), 930000);
        CHECK.same("dividend(3, 100)", x.dividend(3, 100), 0);
        CHECK.same("dividend(3, 100): mark", x.mark(0), 830000);
        CHECK.same("dividend(4, 1000)", x.dividend(4, 1000), 0);
        CHECK.same("dividend behind the expiry: mark", x.mark(0), 830000);
        CHECK.same("dividend(1, 0)", x.dividend(1, 0), 70);
        CHECK.same("dividend(1, 0) again", x.dividend(1, 0), 0);
        CHECK.same("dividend(1, 0): mark", x.mark(0), 900000);
        CHECK.same("dividend(200, 1)", x.dividend(200, 1), 0);
        for (int wrong : new int[] {0, -1, 201, Integer.MIN_VALUE, Integer.MAX_VALUE}) {
            CHECK.fails(x, 1, "dividend(" + wrong + ", 5)", ARGUMENT, () -> x.dividend(wrong, 5));
        }
        for (int wrong : new int[] {-1, 1001, Integer.MIN_VALUE, Integer.MAX_VALUE}) {
            CHECK.fails(x, 1, "dividend(5, " + wrong + ")", ARGUMENT, () -> x.dividend(5, wrong));
        }
        CHECK.same("dividend(5, 0), behind the wrong ones", x.dividend(5, 0), 0);
        dividendAsDaysGo();
    }

    private static void dividendAsDaysGo() {
        Strikehall x = new Strikehall();
        x.contract(0, 9000, 3, false);
        x.quote(0, 900, 1000, 10);
        x.order(0, 0, 10, 1000);
        x.dividend(2, 60);
        CHECK.same("dividend(2, 60): cause(5)", x.cause(5), 600000);
        x.close();
        CHECK.same("day 1: mark", x.mark(0), 940000);
        CHECK.fails(x, 1, "dividend(1, 5) on day 1", ARGUMENT, () -> x.dividend(1, 5));
        CHECK.same("day 1: cause(2)", x.cause(2), 0);
        x.close();
        CHECK.same("day 2: the dividend is not ahead, nor in the price", x.mark(0), 1000000);
        CHECK.same("day 2: cause(2)", x.cause(2), -600000);
        CHECK.fails(x, 1, "dividend(2, 5) on day 2", ARGUMENT, () -> x.dividend(2, 5));
        CHECK.same("dividend(3, 5) on day 2", x.dividend(3, 5), 0);
    }

    private static void contract() {
        Strikehall x = new Strikehall();
        CHECK.same("contract(CALL, 0, 0)", x.contract(0, 0, 0, false), 0);
        CHECK.same("contract(PUT, 20000, 10)", x.contract(1, 20000, 10, true), 1);
        CHECK.same("contract, its mark", x.mark(0), 10000000);
        CHECK.same("contract, its mark", x.mark(1), 10000000);
        for (int wrong : new int[] {-1, 2, Integer.MIN_VALUE, Integer.MAX_VALUE}) {
            CHECK.fails(x, 2, "contract(" + wrong + ", 0, 0)", ARGUMENT, () -> x.contract(wrong, 0, 0, false));
        }
        for (int wrong : new int[] {-1, 20001, Integer.MIN_VALUE, Integer.MAX_VALUE}) {
            CHECK.fails(x, 2, "contract(0, " + wrong + ", 0)", ARGUMENT, () -> x.contract(0, wrong, 0, false));
        }
        for (int wrong : new int[] {-1, 11, Integer.MIN_VALUE, Integer.MAX_VALUE}) {
            CHECK.fails(x, 2, "contract(0, 0, " + wrong + ")", ARGUMENT, () -> x.contract(0, 0, wrong, false));
        }
        x.close();
        CHECK.fails(x, 2, "contract(0, 0, 0) on day 1", ARGUMENT, () -> x.contract(0, 0, 0, false));
        CHECK.same("contract(0, 0, 11) on day 1", x.contract(0, 0, 11, false), 2);
        CHECK.fails(x, 3, "contract(0, 0, 12) on day 1", ARGUMENT, () -> x.contract(0, 0, 12, false));
    }

    private static void contractsAreFull() {
        Strikehall x = new Strikehall();
        for (int c = 0; c < 12; c++) {
            CHECK.same("contract " + c, x.contract(0, 9000 + c, 0, false), c);
        }
        CHECK.fails(x, 12, "a 13th contract", STATE, () -> x.contract(0, 9000, 0, false));
        CHECK.fails(x, 12, "a 13th contract, wrong besides", ARGUMENT, () -> x.contract(2, 9000, 0, false));
        CHECK.fails(x, 12, "a 13th contract, wrong besides", ARGUMENT, () -> x.contract(0, -1, 0, false));
        CHECK.fails(x, 12, "a 13th contract, wrong besides", ARGUMENT, () -> x.contract(0, 9000, 11, false));
        x.close();
        CHECK.fails(x, 12, "those that are over count", STATE, () -> x.contract(0, 9000, 1, false));
        CHECK.same("contract 11 is over", x.mark(11), 0);
        CHECK.fails(x, 12, "mark(12)", INDEX, () -> x.mark(12));
    }

    private static void lastDays() {
        Strikehall x = new Strikehall();
        for (int day = 1; day <= 195; day++) {
            CHECK.same("close()", x.close(), day);
        }
        CHECK.fails(x, 0, "contract(0, 0, 201) on day 195", ARGUMENT, () -> x.contract(0, 0, 201, false));
        CHECK.same("contract(0, 0, 200) on day 195", x.contract(0, 0, 200, false), 0);
        CHECK.same("dividend(200, 9)", x.dividend(200, 9), 0);
        CHECK.same("on day 195: mark", x.mark(0), 9991000);
        for (int day = 196; day <= 200; day++) {
            CHECK.same("close()", x.close(), day);
        }
        CHECK.fails(x, 1, "close() on day 200", STATE, x::close);
        CHECK.fails(x, 1, "dividend(200, 1) on day 200", ARGUMENT, () -> x.dividend(200, 1));
        CHECK.fails(x, 1, "dividend(201, 1) on day 200", ARGUMENT, () -> x.dividend(201, 1));
        CHECK.fails(x, 1, "contract(0, 0, 201) on day 200", ARGUMENT, () -> x.contract(0, 0, 201, false));
        CHECK.same("contract(0, 1, 200) on day 200", x.contract(0, 1, 200, false), 1);
        CHECK.same("on day 200: mark", x.mark(1), 9999000);
    }

    private static void part(Strikehall x, int contract, long above, long below, int mark) {
        String call = "contract " + contract + ": ";
        CHECK.same(call + "value above", x.value(contract, false), above);
        CHECK.same(call + "value below", x.value(contract, true), below);
        CHECK.same(call + "mark", x.mark(contract), mark);
        CHECK.same(call + "markByWays", x.markByWays(contract), mark);
    }

    private static void valuesOfParts() {
        Strikehall x = new Strikehall();
        x.steps(1, 2);
        x.contract(0, 10000, 1, false);
        x.contract(0, 10005, 1, false);
        x.contract(1, 10000, 1, false);
        x.contract(0, 10000, 2, false);
        x.contract(0, 11000, 2, false);
        x.contract(0, 10000, 0, false);
        x.contract(1, 10001, 0, false);
        part(x, 0, 20, 3, 6666);
        part(x, 1, 10, 3, 3333);
        part(x, 2, 20, 3, 6666);
        // ways: up up 20 by 4 of 9, once up -10, so nothing
        part(x, 3, 80, 9, 8888);
        part(x, 4, 0, 1, 0);
        part(x, 5, 0, 1, 0);
        part(x, 6, 1, 1, 1000);
        for (int wrong : new int[] {-1, 7, Integer.MIN_VALUE, Integer.MAX_VALUE}) {
            CHECK.fails(x, 7, "value(" + wrong + ", true)", INDEX, () -> x.value(wrong, true));
            CHECK.fails(x, 7, "value(" + wrong + ", false)", INDEX, () -> x.value(wrong, false));
            CHECK.fails(x, 7, "mark(" + wrong + ")", INDEX, () -> x.mark(wrong));
            CHECK.fails(x, 7, "markByWays(" + wrong + ")", INDEX, () -> x.markByWays(wrong));
        }
    }

    private static void valuesBelowZero() {
        Strikehall x = new Strikehall();
        x.move(0);
        x.contract(1, 100, 1, false);
        x.contract(0, 0, 1, false);
        x.contract(1, 20000, 10, false);
        part(x, 0, 100, 1, 100000);
        part(x, 1, 50, 1, 50000);
        x.dividend(1, 1000);
        part(x, 0, 1100, 1, 1100000);
        part(x, 1, 0, 1, 0);
        for (int day = 2; day <= 10; day++) {
            x.dividend(day, 1000);
        }
        part(x, 2, 30000, 1, 30000000);
    }

    private static void americanValues() {
        Strikehall x = new Strikehall();
        x.contract(0, 9000, 2, true);
        x.contract(0, 9000, 2, false);
        x.contract(1, 11000, 2, true);
        x.dividend(2, 500);
        part(x, 0, 1000, 1, 1000000);
        part(x, 1, 500, 1, 500000);
        part(x, 2, 1500, 1, 1500000);
        // it is best exercised on day 1, behind a step up alone
        x.contract(0, 10000, 2, true);
        part(x, 3, 50, 1, 50000);
        x.dividend(2, 0);
        part(x, 3, 50, 1, 50000);
        x.dividend(2, 20);
        part(x, 3, 50, 1, 50000);
        x.steps(1, 3);
        x.dividend(2, 7);
        // day 1: 10 paid, 39/4 waited; then 3 of 4
        part(x, 3, 15, 2, 7500);
    }

    private static void overValues() {
        Strikehall x = new Strikehall();
        x.contract(0, 9000, 1, true);
        x.contract(1, 11000, 1, false);
        x.close();
        part(x, 0, 1000, 1, 1000000);
        part(x, 1, 1000, 1, 1000000);
        x.close();
        part(x, 0, 0, 1, 0);
        part(x, 1, 0, 1, 0);
        for (int day = 0; day < 12; day++) {
            x.close();
        }
        part(x, 0, 0, 1, 0);
    }

    private static void longestLattice() {
        Strikehall x = new Strikehall();
        x.steps(10, 9);
        x.contract(0, 10950, 10, false);
        // all ten steps up pay 50, one down pays nothing: 50 times (9/19) to the 10th
        part(x, 0, 50L * 3486784401L, 6131066257801L, 28);
        x.steps(10, 10);
        part(x, 0, 25, 512, 48);
        x.contract(1, 20000, 10, true);
        x.move(0);
        part(x, 1, 20000, 1, 20000000);
    }
}
