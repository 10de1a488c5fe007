/** Promises 11 to 14: the seed, exercise and its draws, contrary notices, days. */
public final class ExerciseTest {
    private static final Class<?> ARGUMENT = IllegalArgumentException.class;
    private static final Class<?> STATE = IllegalStateException.class;
    private static final Class<?> INDEX = IndexOutOfBoundsException.class;
    private static final Check CHECK = new Check();

    public static void main(String[] args) {
        seed();
        seedOfNew();
        draws();
        exercise();
        exerciseOfTheHouse();
        exerciseOfNothing();
        wrongExercises();
        contrary();
        wrongNotices();
        close();
        closeDrawsInOrder();
        closeOfTheHouse();
        closeWithoutPay();
        closeWithTheLeastPay();
        CHECK.end("ExerciseTest");
    }

    /** Customer 0 has 10 lots; 1 owes 2, 4 owes 3, and the house 5. */
    private static Strikehall owed(int expiry, boolean isAmerican) {
        Strikehall x = new Strikehall();
        x.contract(Strikehall.CALL, 9900, expiry, isAmerican);
        x.quote(0, 100, 100, 100);
        x.order(1, 0, -2, 100);
        x.order(4, 0, -3, 100);
        x.order(0, 0, 10, 100);
        return x;
    }

    private static long drawn(long[] state, int count) {
        state[0] = (1103515245L * state[0] + 12345) & 0x7fffffffL;
        return (state[0] >> 16) % count;
    }

    private static void owe(Strikehall x, String when, int one, int four, int house) {
        CHECK.same(when + ", lots(1, 0)", x.lots(1, 0), -one);
        CHECK.same(when + ", lots(4, 0)", x.lots(4, 0), -four);
        CHECK.same(when + ", lots(NONE, 0)", x.lots(-1, 0), -house);
    }

    private static void seed() {
        Strikehall x = owed(5, true);
        x.seed(42);
        // 42 becomes 1250496027, and 19081 of 10 is 1: the second of customer 1
        x.exercise(0, 0, 1);
        owe(x, "seed 42, 1 lot", 1, 3, 5);
        // it becomes 1116302264, and 17033 of 9 is 5: the house
        x.exercise(0, 0, 1);
        owe(x, "seed 42, 2 lots", 1, 3, 4);
        Strikehall y = owed(5, true);
        y.seed(2147483647);
        // it becomes 1043980748, and 15929 of 10 is 9: the last one of the house
        y.exercise(0, 0, 1);
        owe(y, "seed 2147483647", 2, 3, 4);
        for (int wrong : new int[] {-1, Integer.MIN_VALUE}) {
            CHECK.fails(x, 1, "seed(" + wrong + ")", ARGUMENT, () -> { x.seed(wrong); return 0; });
        }
    }

    private static void seedOfNew() {
        // 0 becomes 12345, and 0 of 10: the first one who owes
        Strikehall x = owed(5, true);
        x.exercise(0, 0, 1);
        owe(x, "seed 0, 1 lot", 1, 3, 5);
        // 12345 becomes 1406932606, and 21468 of 9 is 3: the last one of customer 4
        x.exercise(0, 0, 1);
        owe(x, "seed 0, 2 lots", 1, 2, 5);
        // 1406932606 becomes 654583775, and 9988 of 8 is 4: the house
        x.exercise(0, 0, 1);
        owe(x, "seed 0, 3 lots", 1, 2, 4);
        CHECK.fails(x, 1, "seed(-1)", ARGUMENT, () -> { x.seed(-1); return 0; });
        // the seed is still 654583775, becomes 1449466924, and 22117 of 7 is 4: the house
        x.exercise(0, 0, 1);
        owe(x, "seed 0, 4 lots", 1, 2, 3);
        x.seed(12345);
        // 21468 of 6 is 0
        x.exercise(0, 0, 1);
        owe(x, "seed 12345", 0, 2, 3);
    }

    private static void draws() {
        for (int seed = 0; seed < 40; seed++) {
            Strikehall x = owed(5, true);
            x.seed(seed * 52345678);
            long[] state = {seed * 52345678L};
            int[] owes = {2, 3, 5};
            for (int left = 10; left > 0; left--) {
                long pick = drawn(state, left);
                owes[pick < owes[0] ? 0 : pick < owes[0] + owes[1] ? 1 : 2]--;
                x.exercise(0, 0, 1);
                owe(x, "seed " + seed + ", " + left + " left", owes[0], owes[1], owes[2]);
            }
        }
    }

    private static void exercise() {
        Strikehall x = owed(5, true);
        long paidFor = -1000000;
        CHECK.same("exercise(0, 0, 10) at 10000", x.exercise(0, 0, 10), 100);
        CHECK.same("lots(0, 0)", x.lots(0, 0), 0);
        owe(x, "all lots", 0, 0, 0);
        CHECK.same("cash(0)", x.cash(0), paidFor + 1000000);
        CHECK.same("cash(1)", x.cash(1), 200000 - 200000);
        CHECK.same("cash(4)", x.cash(4), 300000 - 300000);
        CHECK.same("cash(NONE)", x.cash(-1), 500000 - 500000);
        Strikehall y = owed(0, false);
        y.move(9905);
        CHECK.same("not AMERICAN, on its expiry", y.exercise(0, 0, 2), 5);
        CHECK.same("cash(0)", y.cash(0), paidFor + 10000);
        CHECK.same("lots(0, 0)", y.lots(0, 0), 8);
        Strikehall z = owed(1, false);
        CHECK.fails(z, 1, "not AMERICAN, ahead of its expiry", STATE, () -> z.exercise(0, 0, 1));
        z.close();
        CHECK.same("not AMERICAN, on its expiry", z.exercise(0, 0, 1), 100);
    }

    private static void exerciseOfTheHouse() {
        Strikehall x = new Strikehall();
        x.contract(Strikehall.PUT, 10050, 3, true);
        x.quote(0, 40, 60, 100);
        x.order(2, 0, -6, 40);
        CHECK.same("exercise(NONE, 0, 4)", x.exercise(Strikehall.NONE, 0, 4), 50);
        CHECK.same("lots(NONE, 0)", x.lots(-1, 0), 2);
        CHECK.same("lots(2, 0)", x.lots(2, 0), -2);
        CHECK.same("cash(NONE)", x.cash(-1), -240000 + 200000);
        CHECK.same("cash(2)", x.cash(2), 240000 - 200000);
        CHECK.fails(x, 1, "exercise(NONE, 0, 3)", STATE, () -> x.exercise(-1, 0, 3));
        CHECK.fails(x, 1, "exercise(2, 0, 1) of one who owes", STATE, () -> x.exercise(2, 0, 1));
    }

    private static void exerciseOfNothing() {
        Strikehall x = owed(5, true);
        x.move(9900);
        CHECK.same("exercise at the strike", x.exercise(0, 0, 1), 0);
        owe(x, "at the strike", 1, 3, 5);
        x.move(0);
        CHECK.same("exercise below the strike", x.exercise(0, 0, 1), 0);
        owe(x, "below the strike, the seed goes on", 1, 2, 5);
        CHECK.same("lots(0, 0)", x.lots(0, 0), 8);
        CHECK.same("cash(0)", x.cash(0), -1000000);
    }

    private static void wrongExercises() {
        Strikehall x = owed(0, true);
        for (int wrong : new int[] {-2, 6, Integer.MIN_VALUE, Integer.MAX_VALUE}) {
            CHECK.fails(x, 1, "exercise(" + wrong + ", 0, 0)", INDEX, () -> x.exercise(wrong, 0, 0));
        }
        for (int wrong : new int[] {-1, 1, Integer.MIN_VALUE, Integer.MAX_VALUE}) {
            CHECK.fails(x, 1, "exercise(0, " + wrong + ", 0)", INDEX, () -> x.exercise(0, wrong, 0));
        }
        for (int wrong : new int[] {-1, 0, 1001, Integer.MIN_VALUE, Integer.MAX_VALUE}) {
            CHECK.fails(x, 1, "exercise(0, 0, " + wrong + ")", ARGUMENT, () -> x.exercise(0, 0, wrong));
            CHECK.fails(x, 1, "exercise(3, 0, " + wrong + ")", ARGUMENT, () -> x.exercise(3, 0, wrong));
        }
        CHECK.fails(x, 1, "exercise(0, 0, 11)", STATE, () -> x.exercise(0, 0, 11));
        CHECK.fails(x, 1, "exercise(0, 0, 1000)", STATE, () -> x.exercise(0, 0, 1000));
        CHECK.fails(x, 1, "exercise(3, 0, 1)", STATE, () -> x.exercise(3, 0, 1));
        x.exercise(0, 0, 1);
        owe(x, "the draws are as if nothing was wrong", 1, 3, 5);
        x.close();
        CHECK.fails(x, 1, "exercise of one that is over", STATE, () -> x.exercise(0, 0, 1));
        CHECK.fails(x, 1, "exercise of one that is over, wrong besides", ARGUMENT, () -> x.exercise(0, 0, 0));
    }

    private static void is(String call, boolean got, boolean due) {
        CHECK.same(call, got ? 1 : 0, due ? 1 : 0);
    }

    private static void contrary() {
        Strikehall x = owed(1, false);
        x.contract(Strikehall.CALL, 9900, 1, false);
        is("contrary(0, 0, false)", x.contrary(0, 0, false), false);
        is("contrary(0, 0, true)", x.contrary(0, 0, true), true);
        is("contrary(0, 0, true) again", x.contrary(0, 0, true), false);
        is("contrary(0, 1, true)", x.contrary(0, 1, true), true);
        is("contrary(5, 0, true)", x.contrary(5, 0, true), true);
        is("contrary(0, 0, false)", x.contrary(0, 0, false), true);
        is("contrary(0, 0, true)", x.contrary(0, 0, true), true);
        x.close();
        is("contrary(0, 0, true) a day behind", x.contrary(0, 0, true), false);
        x.close();
        CHECK.same("lots(0, 0) are gone", x.lots(0, 0), 0);
        CHECK.same("cash(0)", x.cash(0), -1000000);
        owe(x, "with a notice", 0, 0, 0);
        CHECK.same("cash(4)", x.cash(4), 300000);
        Strikehall y = owed(0, false);
        y.contrary(0, 0, true);
        y.contrary(0, 0, false);
        y.close();
        CHECK.same("cash(0), the notice taken back", y.cash(0), 0);
        Strikehall z = owed(0, false);
        z.contrary(0, 0, true);
        CHECK.same("exercise(0, 0, 1) with a notice", z.exercise(0, 0, 1), 100);
    }

    private static void wrongNotices() {
        Strikehall x = owed(0, false);
        for (int wrong : new int[] {-2, -1, 6, Integer.MIN_VALUE, Integer.MAX_VALUE}) {
            CHECK.fails(x, 1, "contrary(" + wrong + ", 0, true)", INDEX, () -> x.contrary(wrong, 0, true) ? 1 : 0);
        }
        for (int wrong : new int[] {-1, 1, Integer.MIN_VALUE, Integer.MAX_VALUE}) {
            CHECK.fails(x, 1, "contrary(0, " + wrong + ", true)", INDEX, () -> x.contrary(0, wrong, true) ? 1 : 0);
        }
        x.close();
        CHECK.fails(x, 1, "contrary of one that is over", STATE, () -> x.contrary(0, 0, true) ? 1 : 0);
        CHECK.fails(x, 1, "contrary of one that is over, taken back", STATE, () -> x.contrary(0, 0, false) ? 1 : 0);
        CHECK.fails(x, 1, "contrary of one that is over, wrong besides", INDEX, () -> x.contrary(6, 0, true) ? 1 : 0);
    }

    private static void close() {
        Strikehall x = owed(1, true);
        x.contract(Strikehall.CALL, 9000, 2, true);
        x.quote(1, 1000, 1000, 100);
        x.order(0, 1, 3, 1000);
        CHECK.same("close()", x.close(), 1);
        CHECK.same("ahead of the expiry", x.lots(0, 0), 10);
        CHECK.same("close()", x.close(), 2);
        CHECK.same("behind the expiry", x.lots(0, 0), 0);
        owe(x, "behind the expiry", 0, 0, 0);
        CHECK.same("cash(0)", x.cash(0), -3000000);
        CHECK.same("cash(1)", x.cash(1), 0);
        CHECK.same("cash(4)", x.cash(4), 0);
        CHECK.same("cash(NONE)", x.cash(-1), 3000000);
        CHECK.same("lots(0, 1)", x.lots(0, 1), 3);
        CHECK.same("cause(4)", x.cause(4), 0);
        CHECK.same("the price stays", x.mark(1), 1000000);
    }

    /** By contracts first, then by customers; each draw is of what is owed by then. */
    private static void closeDrawsInOrder() {
        for (int seed = 0; seed < 30; seed++) {
            Strikehall x = new Strikehall();
            for (int c = 0; c < 2; c++) {
                x.contract(Strikehall.CALL, 9900 - 50 * c, 0, false);
                x.quote(c, 100, 100, 100);
                x.order(2, c, -3, 100);
                x.order(3, c, 2, 100);
                x.order(0, c, 2, 100);
                x.order(5, c, -3, 100);
            }
            x.contrary(3, 0, true);
            x.seed(seed);
            long[] state = {seed};
            long[] paid = new long[6];
            // of 0, customer 0 exercises 2 and the house 2, of 6 that are owed; of 1, all exercise
            pay(state, paid, 4, 100000);
            pay(state, paid, 6, 150000);
            x.close();
            CHECK.same("seed " + seed + ", cash(2)", x.cash(2), 600000 - paid[2]);
            CHECK.same("seed " + seed + ", cash(5)", x.cash(5), 600000 - paid[5]);
            CHECK.same("seed " + seed + ", cash(0)", x.cash(0), -400000 + 200000 + 300000);
            CHECK.same("seed " + seed + ", cash(3)", x.cash(3), -400000 + 300000);
            CHECK.same("seed " + seed + ", cash(NONE)", x.cash(-1), -400000 + 200000 + 300000);
        }
    }

    private static void pay(long[] state, long[] paid, int lots, long money) {
        int two = 3;
        int five = 3;
        for (int lot = 0; lot < lots; lot++) {
            if (drawn(state, two + five) < two) {
                two--;
                paid[2] += money;
            } else {
                five--;
                paid[5] += money;
            }
        }
    }

    private static void closeOfTheHouse() {
        Strikehall x = new Strikehall();
        x.contract(Strikehall.PUT, 10050, 0, false);
        x.quote(0, 40, 60, 100);
        x.order(2, 0, -6, 40);
        x.close();
        CHECK.same("the house exercises: cash(NONE)", x.cash(-1), -240000 + 300000);
        CHECK.same("the house exercises: cash(2)", x.cash(2), 240000 - 300000);
        CHECK.same("the house exercises: lots(NONE, 0)", x.lots(-1, 0), 0);
        CHECK.same("the house exercises: cause(4)", x.cause(4), 0);
        CHECK.same("the house exercises: cause(0)", x.cause(0), 60000);
    }

    private static void closeWithoutPay() {
        for (int seed = 0; seed < 30; seed++) {
            Strikehall x = owed(0, false);
            x.contract(Strikehall.CALL, 9000, 5, true);
            x.quote(1, 100, 100, 100);
            x.order(0, 1, -1, 100);
            x.order(5, 1, -1, 100);
            x.order(2, 1, 3, 100);
            x.move(9900);
            x.seed(seed);
            x.close();
            owe(x, "pays nothing", 0, 0, 0);
            CHECK.same("pays nothing: cash(4)", x.cash(4), 300000);
            long pick = drawn(new long[] {seed}, 3);
            x.exercise(2, 1, 1);
            CHECK.same("no draw was made: lots(0, 1)", x.lots(0, 1), pick == 0 ? 0 : -1);
            CHECK.same("no draw was made: lots(5, 1)", x.lots(5, 1), pick == 1 ? 0 : -1);
            CHECK.same("no draw was made: lots(NONE, 1)", x.lots(-1, 1), pick == 2 ? 0 : -1);
        }
    }

    private static void closeWithTheLeastPay() {
        Strikehall x = owed(0, false);
        x.move(9901);
        x.close();
        CHECK.same("pays 1: cash(0)", x.cash(0), -1000000 + 10000);
        CHECK.same("pays 1: cash(1)", x.cash(1), 200000 - 2000);
        CHECK.same("pays 1: cash(4)", x.cash(4), 300000 - 3000);
        CHECK.same("pays 1: cash(NONE)", x.cash(-1), 500000 - 5000);
    }
}
