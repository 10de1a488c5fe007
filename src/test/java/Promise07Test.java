/** Promise 7, kill: nothing to take, the most to take, what counts. */
public final class Promise07Test {
    private static final Promise P = new Promise(7);

    public static void main(String[] args) {
        nothing();
        most();
        eitherSize();
        takenAway();
        over();
        P.end();
    }

    private static void nothing() {
        P.says("`int kill()`: Takes all quotes away; returns how many had something left, of either size.");
        P.answers("no contracts", Houses::empty, x -> x.kill(), 0);
        P.answers("no quotes", Houses::full, x -> x.kill(), 0);
        P.answers("a quote of size 0", () -> Houses.quoted(5, 6, 0), x -> x.kill(), 0);
        P.alike("nothing is taken from nothing", Houses::one, () -> {
            Strikehall x = Houses.one();
            x.kill();
            return x;
        });
    }

    private static void most() {
        P.says("Takes all quotes away");
        Strikehall x = Houses.full();
        for (int c = 0; c < 12; c++) {
            x.quote(c, 0, 20000, 1 + c % 2 * 99);
        }
        P.same("12 quotes", x.kill(), 12);
        for (int c = 0; c < 12; c++) {
            for (int what = 0; what < 4; what++) {
                P.same("quoted(" + c + ", " + what + ")", x.quoted(c, what), 0);
            }
        }
        P.same("kill() again", x.kill(), 0);
    }

    private static void eitherSize() {
        P.says("returns how many had something left, of either size");
        P.answers("both", () -> Houses.quoted(5, 6, 1), x -> x.kill(), 1);
        P.answers("that for the bid", () -> {
            Strikehall x = Houses.quoted(5, 6, 1);
            x.order(0, 0, 1, 6);
            return x;
        }, x -> x.kill(), 1);
        P.answers("that for the ask", () -> {
            Strikehall x = Houses.quoted(5, 6, 1);
            x.order(0, 0, -1, 5);
            return x;
        }, x -> x.kill(), 1);
        Strikehall x = Houses.quoted(5, 6, 1);
        x.order(0, 0, -1, 5);
        x.order(0, 0, 1, 6);
        P.same("none", x.kill(), 0);
        P.same("one that was used up has no bid", x.quoted(0, 0), 0);
        P.same("one that was used up has no ask", x.quoted(0, 1), 0);
    }

    private static void takenAway() {
        P.says("a switch that takes all quotes away");
        Strikehall x = Houses.quoted(6, 6, 10);
        x.order(0, 0, 3, 6);
        P.same("ahead of it, fault()", x.fault(), 1);
        long worth = x.worth();
        x.kill();
        P.same("fault()", x.fault(), 0);
        P.same("an order", x.order(0, 0, 1, 20000), 0);
        P.same("lots stay", x.lots(0, 0), 3);
        P.same("worth stays", x.worth(), worth);
        P.same("a quote behind it", x.quote(0, 5, 6, 2), 0);
        P.same("it is dealt", x.order(0, 0, 1, 6), 1);
        P.same("kill() takes it too", x.kill(), 1);
    }

    private static void over() {
        P.says("its quote is taken away, and its value and mark are 0 then");
        Strikehall x = new Strikehall();
        x.contract(Strikehall.CALL, 10000, 0, false);
        x.contract(Strikehall.CALL, 10000, 1, false);
        x.quote(0, 5, 6, 7);
        x.quote(1, 5, 6, 7);
        x.close();
        P.same("one is over", x.kill(), 1);
    }
}
