/** Promise 1, a new object: what there is, and what there is not yet. */
public final class Promise01Test {
    private static final Promise P = new Promise(1);

    public static void main(String[] args) {
        withoutContracts();
        limitIs100();
        priceIs10000();
        stepsAre10();
        todayIs0();
        noDividends();
        noLotsNoCash();
        nothingQuoted();
        noShares();
        seedIs0();
        noNotices();
        worthNothing();
        eachByItself();
        P.end();
    }

    private static void withoutContracts() {
        P.says("`Strikehall()`: Creates a house without contracts; its limit is 100 lots.");
        for (int contract : new int[] {0, 1, 11, -1}) {
            P.refused("quote", Houses::empty, Promise.INDEX, x -> x.quote(contract, 1, 2, 1));
            P.refused("order", Houses::empty, Promise.INDEX, x -> x.order(0, contract, 1, 2));
            P.refused("exercise", Houses::empty, Promise.INDEX, x -> x.exercise(0, contract, 1));
            P.refused("contrary", Houses::empty, Promise.INDEX, x -> x.contrary(0, contract, true) ? 1 : 0);
            P.refused("value", Houses::empty, Promise.INDEX, x -> x.value(contract, true));
            P.refused("mark", Houses::empty, Promise.INDEX, x -> x.mark(contract));
            P.refused("markByWays", Houses::empty, Promise.INDEX, x -> x.markByWays(contract));
            P.refused("quoted", Houses::empty, Promise.INDEX, x -> x.quoted(contract, 0));
            P.refused("lots", Houses::empty, Promise.INDEX, x -> x.lots(0, contract));
        }
        P.answers("the first contract", Houses::empty, x -> x.contract(0, 0, 0, false), 0);
    }

    private static void limitIs100() {
        P.says("its limit is 100 lots");
        P.answers("limit(0)", Houses::empty, x -> x.limit(0), 100);
        Strikehall x = Houses.quoted(5, 6, 100);
        x.order(0, 0, 99, 6);
        P.same("the 100th lot", x.order(0, 0, 1, 6), 1);
        x.quote(0, 5, 6, 100);
        P.same("the 101st lot", x.order(0, 0, 1, 6), 0);
    }

    private static void priceIs10000() {
        P.says("The share has a price in cents, 10000 at first");
        Strikehall x = new Strikehall();
        x.contract(Strikehall.CALL, 9999, 0, false);
        x.contract(Strikehall.PUT, 10001, 0, false);
        P.same("a CALL of 9999 pays", x.mark(0), 1000);
        P.same("a PUT of 10001 pays", x.mark(1), 1000);
    }

    private static void stepsAre10() {
        P.says("go up by so many tens of cents, 10 at first, or down by so many, 10 at first");
        Strikehall x = new Strikehall();
        x.contract(Strikehall.CALL, 10099, 1, false);
        x.contract(Strikehall.PUT, 9901, 1, false);
        P.same("a step up pays 1, its value above", x.value(0, false), 1);
        P.same("a step up pays 1, its value below", x.value(0, true), 2);
        P.same("a step down pays 1, its value above", x.value(1, false), 1);
        P.same("a step down pays 1, its value below", x.value(1, true), 2);
    }

    private static void todayIs0() {
        P.says("Days are counted; today is 0 at first.");
        P.answers("close()", Houses::empty, x -> x.close(), 1);
        P.answers("a contract of day 0", Houses::empty, x -> x.contract(0, 0, 0, false), 0);
        P.refused("a contract of day -1", Houses::empty, Promise.ARGUMENT, x -> x.contract(0, 0, -1, false));
        P.refused("a dividend on day 0", Houses::empty, Promise.ARGUMENT, x -> x.dividend(0, 1));
    }

    private static void noDividends() {
        P.says("A dividend is told for a day behind today, at most one for each.");
        Strikehall x = new Strikehall();
        for (int day = 1; day <= 200; day++) {
            P.same("dividend(" + day + ", 1)", x.dividend(day, 1), 0);
        }
    }

    private static void noLotsNoCash() {
        P.says("and cash, in thousandths of cents, 0 at first");
        Strikehall x = Houses.one();
        for (int holder = -1; holder <= 5; holder++) {
            P.same("lots(" + holder + ", 0)", x.lots(holder, 0), 0);
            P.same("cash(" + holder + ")", x.cash(holder), 0);
        }
    }

    private static void nothingQuoted() {
        P.says("`int fault()`: Returns the first fault of all quotes, 1 to 4; 0, if there is none.");
        P.answers("fault(), no contracts", Houses::empty, x -> x.fault(), 0);
        P.answers("fault(), a contract", Houses::one, x -> x.fault(), 0);
        P.answers("kill(), no contracts", Houses::empty, x -> x.kill(), 0);
        P.answers("kill(), a contract", Houses::one, x -> x.kill(), 0);
        for (int what = 0; what <= 3; what++) {
            int part = what;
            P.answers("quoted(0, " + what + ")", Houses::one, x -> x.quoted(0, part), 0);
        }
    }

    private static void noShares() {
        P.says("The house can buy or sell shares");
        P.answers("hedge(0, 0)", Houses::empty, x -> x.hedge(0, 0), 0);
    }

    /** 0 becomes 12345, that 1406932606; 21468, of 2, picks the first, of 3 too, of 5 the fourth. */
    private static void seedIs0() {
        P.says("the seed is 0 at first");
        Strikehall x = new Strikehall();
        x.contract(Strikehall.CALL, 9000, 1, true);
        x.quote(0, 5, 6, 100);
        x.order(1, 0, -3, 5);
        x.order(2, 0, -3, 5);
        x.order(0, 0, 6, 6);
        x.exercise(0, 0, 1);
        P.same("draw 0, of 6: lots(1, 0)", x.lots(1, 0), -2);
        x.exercise(0, 0, 1);
        P.same("draw 3, of 5: lots(1, 0)", x.lots(1, 0), -2);
        P.same("draw 3, of 5: lots(2, 0)", x.lots(2, 0), -2);
    }

    private static void noNotices() {
        P.says("Gives a contrary notice, or takes it back.");
        for (int customer = 0; customer <= 5; customer++) {
            int who = customer;
            P.answers("contrary(" + who + ", 0, false)", Houses::one, x -> x.contrary(who, 0, false) ? 1 : 0, 0);
            P.answers("contrary(" + who + ", 0, true)", Houses::one, x -> x.contrary(who, 0, true) ? 1 : 0, 1);
        }
    }

    private static void worthNothing() {
        P.says("What it is worth is its cash, its lots times their marks, and its shares times 1000 times the price.");
        P.answers("worth()", Houses::empty, x -> x.worth(), 0);
        P.answers("worst(100)", Houses::empty, x -> x.worst(100), 0);
        P.answers("move(20000)", Houses::empty, x -> x.move(20000), 0);
        for (int cause = 0; cause <= 5; cause++) {
            int asked = cause;
            P.answers("cause(" + cause + ")", Houses::empty, x -> x.cause(asked), 0);
        }
    }

    private static void eachByItself() {
        P.says("Creates a house");
        Strikehall used = Houses.busy();
        P.alike("behind the use of another one", Houses::empty, () -> {
            used.close();
            return new Strikehall();
        });
        P.same("the other one's lots stay", used.lots(0, 0), 10);
    }
}
