/** Promise 4, dividend: its ends as days go by, the one before, what is refused. */
public final class Promise04Test {
    private static final Promise P = new Promise(4);

    public static void main(String[] args) {
        day();
        dayAsDaysGo();
        cents();
        before();
        refused();
        inPlace();
        whichSteps();
        P.end();
    }

    private static void day() {
        P.says("`day`: today and 1 to 200");
        P.answers("dividend(1, 5)", Houses::empty, x -> x.dividend(1, 5), 0);
        P.answers("dividend(200, 5)", Houses::empty, x -> x.dividend(200, 5), 0);
        P.refusedEach("on day 0, day", Houses::empty, Promise.ARGUMENT, (x, day) -> x.dividend(day, 5),
                0, -1, 201, Promise.LEAST, Promise.MOST);
        P.refusedEach("on day 1, day", Houses::busy, Promise.ARGUMENT, (x, day) -> x.dividend(day, 5),
                1, 0, -1, 201, Promise.LEAST, Promise.MOST);
    }

    private static void dayAsDaysGo() {
        P.says("A dividend is told for a day behind today, at most one for each.");
        P.answers("on day 1, of 2", Houses::busy, x -> x.dividend(2, 5), 0);
        P.answers("on day 199, of 200", () -> Houses.onDay(199), x -> x.dividend(200, 5), 0);
        P.refusedEach("on day 199, day", () -> Houses.onDay(199), Promise.ARGUMENT, (x, day) -> x.dividend(day, 5),
                199, 201);
        P.refusedEach("on day 200, day", () -> Houses.onDay(200), Promise.ARGUMENT, (x, day) -> x.dividend(day, 5),
                199, 200, 201);
    }

    private static void cents() {
        P.says("`cents`: 0 to 1000");
        Strikehall x = new Strikehall();
        x.contract(Strikehall.CALL, 0, 1, false);
        x.dividend(1, 1000);
        P.same("1000, mark", x.mark(0), 9000000);
        x.dividend(1, 999);
        P.same("999, mark", x.mark(0), 9001000);
        x.dividend(1, 1);
        P.same("1, mark", x.mark(0), 9999000);
        x.dividend(1, 0);
        P.same("0, mark", x.mark(0), 10000000);
        P.refusedEach("cents", Houses::busy, Promise.ARGUMENT, (h, cents) -> h.dividend(3, cents),
                -1, 1001, Promise.LEAST, Promise.MOST);
    }

    private static void before() {
        P.says("Returns the one before, 0 without.");
        Strikehall x = new Strikehall();
        P.same("none before", x.dividend(200, 1000), 0);
        P.same("1000 before", x.dividend(200, 1000), 1000);
        P.same("1000 before", x.dividend(200, 0), 1000);
        P.same("0 before", x.dividend(200, 7), 0);
        P.same("7 before", x.dividend(200, 8), 7);
        P.same("another day", x.dividend(199, 9), 0);
        P.same("the day is as it was", x.dividend(200, 8), 8);
        for (int day = 0; day < 198; day++) {
            x.close();
        }
        P.same("199 is still ahead on day 198", x.dividend(199, 9), 9);
    }

    private static void refused() {
        P.says("Throws `IllegalArgumentException` if day or cents is out of range");
        P.refused("both", Houses::busy, Promise.ARGUMENT, x -> x.dividend(1, 1001));
        P.refused("both", Houses::busy, Promise.ARGUMENT, x -> x.dividend(201, -1));
    }

    private static void inPlace() {
        P.says("Tells a dividend, in place of one for that day.");
        Strikehall x = new Strikehall();
        x.contract(Strikehall.CALL, 0, 3, false);
        x.dividend(2, 100);
        x.dividend(2, 30);
        P.same("not both, mark", x.mark(0), 9970000);
        x.dividend(3, 5);
        P.same("another day's besides, mark", x.mark(0), 9965000);
        x.dividend(2, 0);
        P.same("taken away, mark", x.mark(0), 9995000);
    }

    private static void whichSteps() {
        P.says("on a day of a dividend less by that besides");
        Strikehall x = new Strikehall();
        x.contract(Strikehall.CALL, 0, 2, false);
        x.dividend(3, 1000);
        P.same("the day behind the expiry, mark", x.mark(0), 10000000);
        x.dividend(2, 10);
        P.same("the day of the expiry, mark", x.mark(0), 9990000);
        x.dividend(1, 100);
        P.same("the next day, mark", x.mark(0), 9890000);
        x.close();
        P.same("on day 1, mark", x.mark(0), 9990000);
        x.close();
        P.same("on day 2, mark", x.mark(0), 10000000);
    }
}
