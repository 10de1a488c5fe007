/** Promise 13, contrary: the ends of its numbers, given twice, taken back, what comes first. */
public final class Promise13Test {
    private static final Promise P = new Promise(13);

    public static void main(String[] args) {
        customer();
        contract();
        isGiven();
        changes();
        withoutLots();
        refusedIndex();
        refusedOver();
        onTheDayOfExpiry();
        P.end();
    }

    private static Promise.Call told(int customer, int contract, boolean isGiven) {
        return x -> x.contrary(customer, contract, isGiven) ? 1 : 0;
    }

    /** All six customers have one lot that pays 100, and the house owes them. */
    private static Strikehall allHolding() {
        Strikehall x = new Strikehall();
        x.contract(Strikehall.CALL, 9900, 0, false);
        x.quote(0, 0, 1, 100);
        for (int customer = 0; customer <= 5; customer++) {
            x.order(customer, 0, 1, 1);
        }
        return x;
    }

    private static void customer() {
        P.says("`customer`: 0 to 5");
        for (int customer = 0; customer <= 5; customer++) {
            Strikehall x = allHolding();
            P.is("contrary(" + customer + ", 0, true)", x.contrary(customer, 0, true), true);
            x.close();
            for (int other = 0; other <= 5; other++) {
                P.same("cash(" + other + ")", x.cash(other), other == customer ? -1000 : 99000);
            }
        }
        P.refusedEach("customer", Houses::busy, Promise.INDEX, (x, who) -> x.contrary(who, 0, true) ? 1 : 0,
                Strikehall.NONE, 6, -2, Promise.LEAST, Promise.MOST);
    }

    private static void contract() {
        P.says("`contract`: the number of a contract");
        P.answers("the first of 12", Houses::full, told(0, 0, true), 1);
        P.answers("the last of 12", Houses::full, told(0, 11, true), 1);
        P.refusedEach("contract", Houses::busy, Promise.INDEX, (x, c) -> x.contrary(0, c, true) ? 1 : 0,
                -1, Houses.BUSY_CONTRACTS, Promise.LEAST, Promise.MOST);
        P.refusedEach("contract, of 12", Houses::full, Promise.INDEX, (x, c) -> x.contrary(0, c, true) ? 1 : 0, -1, 12);
    }

    private static void isGiven() {
        P.says("`isGiven`: whether it is given then");
        Strikehall x = allHolding();
        x.contrary(0, 0, true);
        x.contrary(1, 0, true);
        x.contrary(1, 0, false);
        x.contrary(2, 0, false);
        x.close();
        P.same("given, cash(0)", x.cash(0), -1000);
        P.same("taken back, cash(1)", x.cash(1), 99000);
        P.same("never given, cash(2)", x.cash(2), 99000);
        P.same("not exercised, they are gone, lots(0, 0)", x.lots(0, 0), 0);
        P.same("not exercised, they are gone, lots(NONE, 0)", x.lots(-1, 0), 0);
    }

    private static void changes() {
        P.says("Returns whether that changes something.");
        P.says("`boolean contrary(int customer, int contract, boolean isGiven) throws IndexOutOfBoundsException, "
                + "IllegalStateException`: Gives a contrary notice, or takes it back.");
        Strikehall x = Houses.busy();
        P.is("not given, taken back", x.contrary(0, 0, false), false);
        P.is("given", x.contrary(0, 0, true), true);
        P.is("given again", x.contrary(0, 0, true), false);
        P.is("another customer", x.contrary(1, 0, true), true);
        P.is("another contract", x.contrary(0, 4, true), true);
        P.is("taken back", x.contrary(0, 0, false), true);
        P.is("taken back again", x.contrary(0, 0, false), false);
        x.close();
        P.is("a day behind", x.contrary(1, 0, true), false);
    }

    private static void withoutLots() {
        P.says("that did not give a contrary notice for it");
        Strikehall x = Houses.one();
        P.is("without lots", x.contrary(3, 0, true), true);
        x.quote(0, 5, 6, 10);
        x.order(3, 0, 2, 6);
        x.close();
        x.close();
        x.move(10100);
        x.close();
        P.same("it stands for lots that came later, cash(3)", x.cash(3), -12000);
        Strikehall y = allHolding();
        y.contrary(0, 0, true);
        P.same("exercise() is free", y.exercise(0, 0, 1), 100);
        Strikehall z = Houses.one();
        z.quote(0, 5, 6, 10);
        z.order(3, 0, -2, 5);
        z.contrary(3, 0, true);
        z.close();
        z.close();
        z.move(10100);
        z.close();
        P.same("one who owes pays nonetheless, cash(3)", z.cash(3), 10000 - 200000);
    }

    private static void refusedIndex() {
        P.says("Throws `IndexOutOfBoundsException` if there is no such customer or contract");
        P.refused("customer, over besides", Houses::busy, Promise.INDEX, told(6, 2, true));
        P.refused("the house, over besides", Houses::busy, Promise.INDEX, told(Strikehall.NONE, 2, true));
        P.refused("both", Houses::busy, Promise.INDEX, told(6, 5, false));
        P.refused("no contracts", Houses::empty, Promise.INDEX, told(0, 0, false));
    }

    private static void refusedOver() {
        P.says("Throws `IllegalStateException` if it is over");
        P.refused("given", Houses::busy, Promise.STATE, told(0, 2, true));
        P.refused("taken back", Houses::busy, Promise.STATE, told(0, 2, false));
    }

    private static void onTheDayOfExpiry() {
        P.says("A contract is over as its expiry is closed");
        P.answers("on the day of its expiry", Houses::busy, told(5, 3, true), 1);
        P.answers("on the day of its expiry, given before", Houses::busy, told(0, 3, true), 0);
    }
}
