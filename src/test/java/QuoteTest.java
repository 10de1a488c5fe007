/** Promises 6 to 9, 18 and 19: quotes, the switch, the limit, orders, faults. */
public final class QuoteTest {
    private static final Class<?> ARGUMENT = IllegalArgumentException.class;
    private static final Class<?> STATE = IllegalStateException.class;
    private static final Class<?> INDEX = IndexOutOfBoundsException.class;
    private static final Check CHECK = new Check();
    private static final int[] NO_SUCH = {-1, 20, Integer.MIN_VALUE, Integer.MAX_VALUE};
    private static final int[] NO_PRICE = {-1, 20001, Integer.MIN_VALUE, Integer.MAX_VALUE};

    public static void main(String[] args) {
        quote();
        wrongQuotes();
        quoteUsedUp();
        kill();
        limit();
        limitFromOutside();
        order();
        wrongOrders();
        crossedFault();
        strikesFault();
        putStrikesFault();
        middleFault();
        expiriesFault();
        firstFault();
        faultsNeedBothSizes();
        CHECK.end("QuoteTest");
    }

    private static Strikehall house(int... strikesOfCalls) {
        Strikehall x = new Strikehall();
        for (int strike : strikesOfCalls) {
            x.contract(Strikehall.CALL, strike, 5, false);
        }
        return x;
    }

    private static void isQuoted(Strikehall x, int contract, int bid, int ask, int bidLeft, int askLeft) {
        String call = "quoted(" + contract + ", ";
        CHECK.same(call + "0)", x.quoted(contract, 0), bid);
        CHECK.same(call + "1)", x.quoted(contract, 1), ask);
        CHECK.same(call + "2)", x.quoted(contract, 2), bidLeft);
        CHECK.same(call + "3)", x.quoted(contract, 3), askLeft);
    }

    private static void quote() {
        Strikehall x = house(10000, 9000);
        isQuoted(x, 0, 0, 0, 0, 0);
        CHECK.same("quote(0, 7, 9, 5)", x.quote(0, 7, 9, 5), 0);
        isQuoted(x, 0, 7, 9, 5, 5);
        isQuoted(x, 1, 0, 0, 0, 0);
        CHECK.same("quote(0, 8, 10, 100)", x.quote(0, 8, 10, 100), 0);
        isQuoted(x, 0, 8, 10, 100, 100);
        x.order(0, 0, 3, 10);
        x.order(1, 0, -4, 8);
        isQuoted(x, 0, 8, 10, 96, 97);
        CHECK.same("told anew", x.quote(0, 8, 10, 6), 0);
        isQuoted(x, 0, 8, 10, 6, 6);
        CHECK.same("quote(0, 8, 10, 0) takes it away", x.quote(0, 8, 10, 0), 0);
        isQuoted(x, 0, 0, 0, 0, 0);
        CHECK.same("quote(0, 0, 20000, 1)", x.quote(0, 0, 20000, 1), 0);
        isQuoted(x, 0, 0, 20000, 1, 1);
        CHECK.same("quote(1, 20000, 0, 1)", x.quote(1, 20000, 0, 1), 1);
        CHECK.same("a crossed one of no size", x.quote(1, 20000, 0, 0), 0);
        CHECK.same("quoted(0, 4)", Check.outcome(() -> x.quoted(0, 4)), "throws.IllegalArgumentException");
        CHECK.fails(x, 2, "quoted(0, -1)", ARGUMENT, () -> x.quoted(0, -1));
        CHECK.fails(x, 2, "quoted(2, 0)", INDEX, () -> x.quoted(2, 0));
        CHECK.fails(x, 2, "quoted(-1, 9)", INDEX, () -> x.quoted(-1, 9));
        quoteGoesWithTheExpiry();
    }

    private static void quoteGoesWithTheExpiry() {
        Strikehall x = new Strikehall();
        x.contract(0, 10000, 1, false);
        x.contract(0, 10000, 2, false);
        x.quote(0, 5, 6, 5);
        x.quote(1, 5, 6, 5);
        x.close();
        isQuoted(x, 0, 5, 6, 5, 5);
        x.close();
        isQuoted(x, 0, 0, 0, 0, 0);
        isQuoted(x, 1, 5, 6, 5, 5);
        CHECK.same("kill() behind an expiry", x.kill(), 1);
    }

    private static void wrongQuotes() {
        Strikehall x = new Strikehall();
        x.contract(0, 10000, 0, false);
        x.contract(0, 10000, 5, false);
        x.quote(1, 5, 6, 7);
        for (int wrong : NO_SUCH) {
            CHECK.fails(x, 2, "quote(" + wrong + ", -1, 0, 0)", INDEX, () -> x.quote(wrong, -1, 0, 0));
        }
        for (int wrong : NO_PRICE) {
            CHECK.fails(x, 2, "quote(1, " + wrong + ", 5, 5)", ARGUMENT, () -> x.quote(1, wrong, 5, 5));
            CHECK.fails(x, 2, "quote(1, 5, " + wrong + ", 5)", ARGUMENT, () -> x.quote(1, 5, wrong, 5));
        }
        for (int wrong : new int[] {-1, 101, Integer.MIN_VALUE, Integer.MAX_VALUE}) {
            CHECK.fails(x, 2, "quote(1, 5, 6, " + wrong + ")", ARGUMENT, () -> x.quote(1, 5, 6, wrong));
            CHECK.fails(x, 2, "quote(1, 5, 6, " + wrong + "), size 0", ARGUMENT, () -> x.quote(1, 5, 20001, 0));
        }
        x.close();
        CHECK.fails(x, 2, "quote of one that is over", STATE, () -> x.quote(0, 5, 6, 7));
        CHECK.fails(x, 2, "quote of one that is over, size 0", STATE, () -> x.quote(0, 5, 6, 0));
        CHECK.fails(x, 2, "quote of one that is over, wrong besides", ARGUMENT, () -> x.quote(0, 5, 6, 101));
        CHECK.same("quote of the other one", x.quote(1, 5, 6, 7), 0);
    }

    private static void quoteUsedUp() {
        Strikehall x = house(10000);
        x.quote(0, 7, 9, 5);
        CHECK.same("order of 8", x.order(0, 0, 8, 9), 5);
        isQuoted(x, 0, 7, 9, 5, 0);
        CHECK.same("order of 1, nothing left", x.order(0, 0, 1, 20000), 0);
        CHECK.same("order of -4", x.order(0, 0, -4, 7), 4);
        isQuoted(x, 0, 7, 9, 1, 0);
        CHECK.same("order of -4, of 1 left", x.order(0, 0, -4, 7), 1);
        isQuoted(x, 0, 0, 0, 0, 0);
        CHECK.same("order of -4, nothing left", x.order(0, 0, -4, 0), 0);
        CHECK.same("order of 4, nothing left", x.order(0, 0, 4, 20000), 0);
        isQuoted(x, 0, 0, 0, 0, 0);
        CHECK.same("kill() of what is used up", x.kill(), 0);
        x.quote(0, 7, 9, 3);
        x.order(0, 0, -3, 7);
        x.order(0, 0, 2, 9);
        isQuoted(x, 0, 7, 9, 0, 1);
        CHECK.same("kill() of 1 left for the ask", x.kill(), 1);
    }

    private static void kill() {
        Strikehall x = house(10000, 10001, 10002, 10003, 10004);
        for (int c = 0; c < 4; c++) {
            x.quote(c, 5, 6, 2);
        }
        x.order(0, 0, 2, 6);
        x.order(0, 1, -2, 5);
        x.order(0, 2, 2, 6);
        x.order(0, 2, -2, 5);
        CHECK.same("kill()", x.kill(), 3);
        for (int c = 0; c < 5; c++) {
            isQuoted(x, c, 0, 0, 0, 0);
        }
        CHECK.same("kill() again", x.kill(), 0);
        CHECK.same("order behind kill()", x.order(0, 3, 1, 20000), 0);
        x.quote(3, 9, 9, 1);
        CHECK.same("fault()", x.fault(), 1);
        x.kill();
        CHECK.same("fault() behind kill()", x.fault(), 0);
        CHECK.same("lots behind kill()", x.lots(0, 0), 2);
    }

    private static void limit() {
        Strikehall x = house(10000);
        CHECK.same("limit(10)", x.limit(10), 100);
        x.quote(0, 5, 6, 100);
        CHECK.same("the house sells to -10", x.order(0, 0, 100, 6), 10);
        CHECK.same("the house sells no more", x.order(1, 0, 1, 6), 0);
        CHECK.same("the house buys to 10", x.order(1, 0, -100, 5), 20);
        CHECK.same("lots of the house", x.lots(-1, 0), 10);
        CHECK.same("the house buys no more", x.order(1, 0, -1, 5), 0);
        CHECK.same("limit(0)", x.limit(0), 10);
        CHECK.same("the house buys no more", x.order(1, 0, -1, 5), 0);
        CHECK.same("the house sells to 0", x.order(1, 0, 100, 6), 10);
        CHECK.same("the house trades no more", x.order(1, 0, 1, 6), 0);
        CHECK.same("the house trades no more", x.order(1, 0, -1, 5), 0);
        isQuoted(x, 0, 5, 6, 80, 80);
        CHECK.same("limit(1000)", x.limit(1000), 0);
        for (int wrong : new int[] {-1, 1001, Integer.MIN_VALUE, Integer.MAX_VALUE}) {
            CHECK.fails(x, 1, "limit(" + wrong + ")", ARGUMENT, () -> x.limit(wrong));
        }
        CHECK.same("limit(5), behind the wrong ones", x.limit(5), 1000);
    }

    private static void limitFromOutside() {
        Strikehall x = house(10000, 11000);
        x.quote(0, 5, 6, 100);
        x.quote(1, 5, 6, 100);
        x.order(0, 0, 30, 6);
        x.order(0, 1, -30, 5);
        x.limit(12);
        CHECK.same("from -30: the house sells no more", x.order(0, 0, 1, 6), 0);
        CHECK.same("from -30: they become fewer, still more than the limit", x.order(0, 0, -5, 5), 5);
        CHECK.same("from -25: to the limit on the other side", x.order(0, 0, -100, 5), 37);
        CHECK.same("lots of the house", x.lots(-1, 0), 12);
        CHECK.same("from 30: the house buys no more", x.order(0, 1, -1, 5), 0);
        CHECK.same("from 30: they become fewer, still more than the limit", x.order(0, 1, 7, 6), 7);
        CHECK.same("from 23: to the limit on the other side", x.order(0, 1, 100, 6), 35);
        CHECK.same("lots of the house", x.lots(-1, 1), -12);
    }

    private static void order() {
        Strikehall x = house(10000, 11000);
        x.quote(0, 45, 60, 20);
        CHECK.same("without a quote", x.order(0, 1, 5, 20000), 0);
        CHECK.same("without a quote", x.order(0, 1, -5, 0), 0);
        CHECK.same("buys at the ask", x.order(0, 0, 3, 60), 3);
        CHECK.same("buys not above its limit", x.order(0, 0, 3, 59), 0);
        CHECK.same("buys at the ask, not at its limit", x.order(5, 0, 2, 20000), 2);
        CHECK.same("sells at the bid", x.order(1, 0, -4, 45), 4);
        CHECK.same("sells not below its limit", x.order(1, 0, -4, 46), 0);
        CHECK.same("sells at the bid, not at its limit", x.order(1, 0, -1, 0), 1);
        CHECK.same("cash(0)", x.cash(0), -180000);
        CHECK.same("cash(5)", x.cash(5), -120000);
        CHECK.same("cash(1)", x.cash(1), 225000);
        CHECK.same("cash(NONE)", x.cash(-1), 75000);
        CHECK.same("lots(0, 0)", x.lots(0, 0), 3);
        CHECK.same("lots(5, 0)", x.lots(5, 0), 2);
        CHECK.same("lots(1, 0)", x.lots(1, 0), -5);
        CHECK.same("lots(NONE, 0)", x.lots(-1, 0), 0);
        CHECK.same("lots(0, 1)", x.lots(0, 1), 0);
        isQuoted(x, 0, 45, 60, 15, 15);
        CHECK.same("as many as are left", x.order(2, 0, 100, 60), 15);
        CHECK.same("as many as are left", x.order(2, 0, -100, 45), 15);
        CHECK.same("cash(2)", x.cash(2), -225000);
    }

    private static void wrongOrders() {
        Strikehall x = new Strikehall();
        x.contract(0, 10000, 0, false);
        x.contract(0, 10000, 5, false);
        x.quote(0, 5, 6, 50);
        x.quote(1, 5, 6, 50);
        x.order(3, 0, 7, 6);
        for (int wrong : NO_SUCH) {
            CHECK.fails(x, 2, "order(" + wrong + ", 0, 0, -1)", INDEX, () -> x.order(wrong, 0, 0, -1));
            CHECK.fails(x, 2, "order(0, " + wrong + ", 0, -1)", INDEX, () -> x.order(0, wrong, 0, -1));
        }
        CHECK.fails(x, 2, "order(6, 0, 1, 6)", INDEX, () -> x.order(6, 0, 1, 6));
        CHECK.fails(x, 2, "order(0, 2, 1, 6)", INDEX, () -> x.order(0, 2, 1, 6));
        for (int wrong : new int[] {0, 101, -101, Integer.MIN_VALUE, Integer.MAX_VALUE}) {
            CHECK.fails(x, 2, "order(0, 1, " + wrong + ", 6)", ARGUMENT, () -> x.order(0, 1, wrong, 6));
        }
        for (int wrong : NO_PRICE) {
            CHECK.fails(x, 2, "order(0, 1, 1, " + wrong + ")", ARGUMENT, () -> x.order(0, 1, 1, wrong));
            CHECK.fails(x, 2, "order(0, 1, -1, " + wrong + ")", ARGUMENT, () -> x.order(0, 1, -1, wrong));
        }
        x.close();
        CHECK.fails(x, 2, "order of one that is over", STATE, () -> x.order(0, 0, 1, 6));
        CHECK.fails(x, 2, "order of one that is over, wrong besides", ARGUMENT, () -> x.order(0, 0, 0, 6));
        CHECK.fails(x, 2, "order of one that is over, wrong besides", ARGUMENT, () -> x.order(0, 0, 1, 20001));
        CHECK.same("order of the other one", x.order(0, 1, 50, 6), 50);
    }

    private static void crossedFault() {
        Strikehall x = house(10000);
        CHECK.same("bid below ask", x.quote(0, 8, 9, 1), 0);
        CHECK.same("bid the same as ask", x.quote(0, 9, 9, 1), 1);
        CHECK.same("bid above ask", x.quote(0, 10, 9, 1), 1);
        CHECK.same("fault()", x.fault(), 1);
        CHECK.same("0 and 0", x.quote(0, 0, 0, 1), 1);
    }

    private static void strikesFault() {
        Strikehall x = house(10000, 10100);
        x.contract(Strikehall.PUT, 10200, 5, false);
        x.contract(Strikehall.CALL, 10200, 4, false);
        x.contract(Strikehall.CALL, 10200, 5, true);
        x.contract(Strikehall.CALL, 10000, 5, false);
        x.quote(0, 30, 40, 1);
        CHECK.same("the higher strike's bid the same as the ask", x.quote(1, 40, 50, 1), 0);
        CHECK.same("the higher strike's bid above the ask", x.quote(1, 41, 50, 1), 2);
        CHECK.same("fault()", x.fault(), 2);
        CHECK.same("the higher strike's bid below", x.quote(1, 20, 29, 1), 0);
        CHECK.same("another kind", x.quote(2, 100, 110, 1), 0);
        CHECK.same("another expiry", x.quote(3, 100, 110, 1), 0);
        CHECK.same("another way of exercise", x.quote(4, 100, 110, 1), 0);
        CHECK.same("the same strike", x.quote(5, 100, 110, 1), 0);
    }

    private static void putStrikesFault() {
        Strikehall x = new Strikehall();
        x.contract(Strikehall.PUT, 10100, 5, true);
        x.contract(Strikehall.PUT, 10000, 5, true);
        x.quote(0, 30, 40, 1);
        CHECK.same("the lower strike's bid the same as the ask", x.quote(1, 40, 50, 1), 0);
        CHECK.same("the lower strike's bid above the ask", x.quote(1, 41, 50, 1), 2);
        CHECK.same("the lower strike's ask below", x.quote(1, 10, 29, 1), 0);
    }

    private static void middleFault() {
        Strikehall x = house(10200, 10000, 10100, 10101, 10100);
        x.quote(1, 90, 100, 1);
        x.quote(0, 10, 20, 1);
        CHECK.same("twice the bid the same as the asks", x.quote(2, 60, 70, 1), 0);
        CHECK.same("twice the bid above the asks", x.quote(2, 61, 70, 1), 3);
        CHECK.same("fault()", x.fault(), 3);
        x.quote(2, 0, 0, 0);
        CHECK.same("not just between", x.quote(3, 61, 70, 1), 0);
        x.quote(3, 0, 0, 0);
        CHECK.same("another one just between", x.quote(4, 61, 70, 1), 3);
        CHECK.same("one of the outer ones has no quote", x.quote(0, 10, 20, 0), 0);
        Strikehall y = house(10100, 10200, 10000);
        y.quote(1, 10, 20, 1);
        y.quote(2, 90, 100, 1);
        CHECK.same("the middle one is contract 0", y.quote(0, 61, 70, 1), 3);
        middleFaultOfPuts();
    }

    private static void middleFaultOfPuts() {
        Strikehall x = new Strikehall();
        x.contract(Strikehall.PUT, 9900, 3, false);
        x.contract(Strikehall.PUT, 10000, 3, false);
        x.contract(Strikehall.PUT, 10100, 3, false);
        x.contract(Strikehall.CALL, 9900, 3, false);
        x.contract(Strikehall.CALL, 10100, 3, false);
        x.quote(1, 41, 42, 1);
        x.quote(3, 41, 41, 0);
        x.quote(3, 59, 60, 1);
        CHECK.same("outer ones of another kind", x.quote(4, 9, 10, 1), 0);
        x.quote(0, 9, 10, 1);
        CHECK.same("outer ones of the same kind", x.quote(2, 68, 71, 1), 3);
        CHECK.same("outer ones of the same kind, dearer", x.quote(2, 68, 72, 1), 0);
    }

    private static void expiriesFault() {
        Strikehall x = new Strikehall();
        x.contract(Strikehall.PUT, 10000, 5, true);
        x.contract(Strikehall.PUT, 10000, 4, true);
        x.contract(Strikehall.PUT, 10000, 3, false);
        x.contract(Strikehall.CALL, 10000, 3, true);
        x.contract(Strikehall.PUT, 10000, 5, true);
        x.contract(Strikehall.PUT, 10001, 3, true);
        x.quote(0, 30, 40, 1);
        CHECK.same("the earlier one's bid the same as the ask", x.quote(1, 40, 50, 1), 0);
        CHECK.same("the earlier one's bid above the ask", x.quote(1, 41, 50, 1), 4);
        CHECK.same("fault()", x.fault(), 4);
        CHECK.same("the later one's bid above the ask", x.quote(1, 10, 20, 1), 0);
        CHECK.same("not AMERICAN", x.quote(2, 90, 95, 1), 0);
        CHECK.same("another kind", x.quote(3, 90, 95, 1), 0);
        CHECK.same("the same expiry", x.quote(4, 90, 95, 1), 0);
        CHECK.same("another strike", x.quote(5, 90, 95, 1), 0);
        expiriesFaultOfCalls();
    }

    private static void expiriesFaultOfCalls() {
        Strikehall x = new Strikehall();
        x.contract(Strikehall.CALL, 10000, 0, true);
        x.contract(Strikehall.CALL, 10000, 1, true);
        x.contract(Strikehall.CALL, 10000, 1, false);
        x.contract(Strikehall.CALL, 10000, 2, false);
        x.quote(2, 41, 42, 1);
        CHECK.same("both not AMERICAN", x.quote(3, 30, 40, 1), 0);
        x.quote(0, 41, 42, 1);
        CHECK.same("both AMERICAN", x.quote(1, 30, 40, 1), 4);
        x.close();
        CHECK.same("the earlier one is over", x.fault(), 0);
    }

    private static void firstFault() {
        Strikehall x = new Strikehall();
        for (int strike = 10000; strike <= 10200; strike += 100) {
            x.contract(Strikehall.CALL, strike, 5, true);
        }
        x.contract(Strikehall.CALL, 10000, 6, true);
        x.quote(0, 90, 100, 1);
        x.quote(1, 61, 70, 1);
        CHECK.same("4 alone", x.quote(3, 50, 60, 1), 4);
        CHECK.same("3 ahead of 4", x.quote(2, 10, 20, 1), 3);
        CHECK.same("2 ahead of 3", x.quote(2, 71, 80, 1), 2);
        CHECK.same("1 ahead of 2", x.quote(3, 60, 60, 1), 1);
        CHECK.same("fault()", x.fault(), 1);
        CHECK.same("4 goes with it", x.quote(3, 50, 60, 0), 2);
    }

    private static void faultsNeedBothSizes() {
        Strikehall x = house(10000);
        x.quote(0, 50, 40, 2);
        x.order(0, 0, 2, 40);
        CHECK.same("1, nothing left for the ask", x.fault(), 0);
        x.quote(0, 50, 40, 2);
        x.order(0, 0, -2, 50);
        CHECK.same("1, nothing left for the bid", x.fault(), 0);
        x.quote(0, 50, 40, 2);
        x.order(0, 0, 1, 40);
        x.order(0, 0, -1, 50);
        CHECK.same("1, something left of both", x.fault(), 1);
        Strikehall y = house(10000, 10100);
        y.quote(0, 30, 40, 2);
        CHECK.same("2", y.quote(1, 45, 50, 2), 2);
        y.order(0, 0, -2, 30);
        CHECK.same("2, nothing left for the other side", y.fault(), 0);
    }
}
