/** Promise 11, seed: its ends, the number that wraps around, what is refused. */
public final class Promise11Test {
    private static final Promise P = new Promise(11);

    public static void main(String[] args) {
        seed();
        refused();
        wrapsAround();
        staysInRange();
        modulo();
        P.end();
    }

    /** Customer 5 has 7 lots; 0 to 4 owe one each, the house two. */
    private static Strikehall owed(int seed) {
        Strikehall x = new Strikehall();
        x.contract(Strikehall.CALL, 9000, 5, true);
        x.quote(0, 5, 6, 100);
        for (int customer = 0; customer < 5; customer++) {
            x.order(customer, 0, -1, 5);
        }
        x.order(5, 0, 7, 6);
        x.seed(seed);
        return x;
    }

    /** Who pays for a lot: the one whose cash goes down, -1 for the house. */
    private static int payer(Strikehall x) {
        long[] before = new long[5];
        for (int customer = 0; customer < 5; customer++) {
            before[customer] = x.cash(customer);
        }
        x.exercise(5, 0, 1);
        for (int customer = 0; customer < 5; customer++) {
            if (x.cash(customer) < before[customer]) {
                return customer;
            }
        }
        return -1;
    }

    private static void seed() {
        P.says("`seed`: 0 to 2147483647");
        // 0 becomes 12345: 0 of 7 lots
        P.same("0", payer(owed(0)), 0);
        // 1 becomes 1103527590: 16838, of 7 it is 3
        P.same("1", payer(owed(1)), 3);
        // 2147483646 becomes 2087949151: 31859, of 7 it is 2
        P.same("2147483646", payer(owed(2147483646)), 2);
        // 2147483647 becomes 1043980748: 15929, of 7 it is 4
        P.same("2147483647", payer(owed(2147483647)), 4);
    }

    private static void refused() {
        P.says("Throws `IllegalArgumentException` if seed is out of range");
        P.refusedEach("seed", Houses::busy, Promise.ARGUMENT, (x, seed) -> { x.seed(seed); return 0; },
                -1, -2, Promise.LEAST);
        P.refusedEach("seed, on a new house", Houses::empty, Promise.ARGUMENT, (x, seed) -> { x.seed(seed); return 0; },
                -1, Promise.LEAST);
    }

    private static void wrapsAround() {
        P.says("become 1103515245 times it and 12345, modulo 2 to the power of 31");
        // 2 becomes 2207042835 without, 59559187 with the modulo: 908, of 7 it is 5: the house
        P.same("2", payer(owed(2)), -1);
        // 1 becomes 1103527590, below 2147483648
        P.same("1", payer(owed(1)), 3);
        // 1073741824, 2 to the power of 30, becomes that and 12345: 16384, of 7 it is 4
        P.same("1073741824", payer(owed(1073741824)), 4);
    }

    private static void staysInRange() {
        P.says("divided by 65536, rounded down, modulo n");
        Strikehall x = owed(2147483647);
        // each draw begins with what the one before has left
        long state = 2147483647L;
        int[] owes = {1, 1, 1, 1, 1, 2};
        for (int left = 7; left > 0; left--) {
            state = (1103515245L * state + 12345L) & 0x7fffffffL;
            int pick = (int) (state / 65536 % left);
            int who = 0;
            while (pick >= owes[who]) {
                pick -= owes[who];
                who++;
            }
            owes[who]--;
            P.same(left + " left", payer(x), who == 5 ? -1 : who);
        }
    }

    private static void modulo() {
        P.says("`void seed(int seed) throws IllegalArgumentException`: Sets the seed.");
        Strikehall x = owed(5);
        x.seed(2147483647);
        x.seed(0);
        P.same("the last one told", payer(x), 0);
        x.seed(0);
        // 0 of 6 lots that are left, customer 1 is the first of them
        P.same("told again", payer(x), 1);
        P.same("nothing is worth more by it", x.worth(), owed(1).worth());
    }
}
