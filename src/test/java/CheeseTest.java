/** Promises 31 to 33: measure, cheese, rest. */
public final class CheeseTest {
    public static void main(String[] args) {
        measure();
        cheeseAnswers();
        parting();
        tied();
        oneTooMany();
        Check.end();
    }

    /** Houses with cows enough and an alp on which all are fed. */
    private static AlpCommune meadow(int houses) {
        AlpCommune x = new AlpCommune();
        for (int h = 0; h < houses; h++) x.house(1, 1, 99, 99999);
        x.alp(0, 99);
        Check.pass(x, "feet 0");
        Check.pass(x, "rate 0");
        Check.pass(x, "from 0");
        Check.pass(x, "till 999");
        x.weather(0, 0, 20);
        x.days(10);
        return x;
    }

    /** A day with so many cows up of each house, measured. */
    private static void milk(AlpCommune x, int... cows) {
        for (int h = 0; h < cows.length; h++) x.drive(h, 0, cows[h]);
        x.days(1);
        x.measure();
        for (int h = 0; h < cows.length; h++) x.home(h, 0, cows[h]);
    }

    private static void measure() {
        AlpCommune x = new AlpCommune();
        Check.due("none was lived", x.measure(), -3);
        x.days(1);
        Check.due("without houses", x.measure(), 0);
        Check.due("it is measured", x.measure(), -3);
        AlpCommune y = meadow(2);
        y.drive(0, 0, 3);
        y.drive(1, 0, 5);
        y.days(2);
        Check.due("the day lived last alone", y.measure(), 64);
        Check.due("SUM of 0", y.told(0, 8), 24);
        Check.due("SUM of 1", y.told(1, 8), 40);
        Check.due("it is measured", y.measure(), -3);
        Check.due("MILK stays told", y.told(0, 7), 24);
        y.home(0, 0, 3);
        y.days(1);
        Check.due("another day", y.measure(), 40);
        Check.due("SUM of 0", y.told(0, 8), 24);
        Check.due("SUM of 1", y.told(1, 8), 80);
        y.days(1);
        Check.due("not measured, no SUM", y.told(1, 8), 80);
    }

    private static void cheeseAnswers() {
        AlpCommune x = meadow(2);
        for (int n : Check.outside(0, 9999)) Check.due("n " + n, x.cheese(n), -2);
        Check.due("without any SUM", x.cheese(9), 0);
        for (int h : Check.outside(0, 1)) Check.due("rest of " + h, x.rest(h), -1000000);
        Check.due("rest at first", x.rest(1), 0);
        milk(x, 1, 2);
        Check.due("SUM", x.told(1, 8), 16);
        Check.due("BAD changes nothing", x.cheese(10000), -2);
        Check.due("SUM", x.told(1, 8), 16);
        Check.due("no wheels", x.cheese(0), 0);
        Check.due("SUMS are 0", x.told(1, 8), 0);
        Check.due("nobody got any", x.count(10), 0);
        milk(x, 1, 2);
        Check.due("the most", x.cheese(9999), 9999);
        Check.due("of 0", x.told(0, 10), 3333);
        Check.due("of 1", x.told(1, 10), 6666);
        Check.due("count(10)", x.count(10), 9999);
        Check.due("no rest", x.rest(0), 0);
        Check.due("without houses", new AlpCommune().cheese(1), 0);
    }

    private static void parting() {
        AlpCommune x = meadow(3);
        milk(x, 1, 1, 5);
        Check.due("of seven parts, two wheels", x.cheese(2), 2);
        // 2857, 2857, 14285: one whole one to 2, then one more to the greatest of 2857, 2857, 4285.
        int[] wheels = {0, 0, 2}, rests = {2857, 2857, -5715};
        for (int h = 0; h < 3; h++) {
            Check.due("wheels of " + h, x.told(h, 10), wheels[h]);
            Check.due("rest of " + h, x.rest(h), rests[h]);
        }
        Check.due("without any SUM the rests stay", x.cheese(1), 0);
        Check.due("rest", x.rest(2), -5715);
        milk(x, 1, 1, 5);
        // 4285, 4285, 1427: 0 gets it.
        Check.due("one wheel", x.cheese(1), 1);
        Check.due("wheel of 0", x.told(0, 10), 1);
        Check.due("rest of 0", x.rest(0), 4285 - 10000);
        Check.due("rest of 1", x.rest(1), 4285);
        Check.due("rest of 2", x.rest(2), 7142 - 5715);
        milk(x, 5, 1, 1);
        // 7142 - 5715 = 1427, 1428 + 4285 = 5713, 1428 + 1427 = 2855.
        Check.due("one wheel", x.cheese(1), 1);
        Check.due("wheel of 1", x.told(1, 10), 1);
        Check.due("count(10)", x.count(10), 4);
    }

    private static void tied() {
        AlpCommune x = meadow(4);
        milk(x, 3, 3, 3, 3);
        Check.due("six wheels", x.cheese(6), 6);
        int[] wheels = {2, 2, 1, 1}, rests = {-5000, -5000, 5000, 5000};
        for (int h = 0; h < 4; h++) {
            Check.due("wheels of " + h, x.told(h, 10), wheels[h]);
            Check.due("rest of " + h, x.rest(h), rests[h]);
        }
        milk(x, 3, 3, 3, 3);
        Check.due("two wheels", x.cheese(2), 2);
        Check.due("wheels of 2", x.told(2, 10), 2);
        Check.due("wheels of 3", x.told(3, 10), 2);
        Check.due("rest of 0", x.rest(0), 0);
        Check.due("rest of 3", x.rest(3), 0);
    }

    /** Rests that make more whole wheels than there are: of those that got one now the least rest gives it back. */
    private static void oneTooMany() {
        AlpCommune x = meadow(5);
        // Two wheels of 4000 each: 0 and 1 get them, and have -6000 then; 2, 3, 4 have 4000.
        milk(x, 1, 1, 1, 1, 1);
        x.cheese(2);
        int[] first = {-6000, -6000, 4000, 4000, 4000};
        for (int h = 0; h < 5; h++) Check.due("rest of " + h, x.rest(h), first[h]);
        // Two wheels by 0, 0, 6, 7, 7 of 20: 6000, 7000, 7000 more: 10000, 11000, 11000 make three.
        x.drive(2, 0, 6);
        x.drive(3, 0, 7);
        x.drive(4, 0, 7);
        x.days(1);
        x.measure();
        Check.due("two wheels", x.cheese(2), 2);
        int[] rests = {-6000, -6000, 10000, 1000, 1000}, wheels = {1, 1, 0, 1, 1};
        for (int h = 0; h < 5; h++) {
            Check.due("rest of " + h, x.rest(h), rests[h]);
            Check.due("wheels of " + h, x.told(h, 10), wheels[h]);
        }
        Check.due("count(10)", x.count(10), 4);
        x.days(1);
        x.measure();
        // Without wheels nothing is added: the 10000 of 2 would be one, and goes back.
        Check.due("no wheels", x.cheese(0), 0);
        for (int h = 0; h < 5; h++) Check.due("rest of " + h, x.rest(h), rests[h]);
        Check.due("wheels of 2", x.told(2, 10), 0);
        x.days(1);
        x.measure();
        // One wheel: 3000, 3500, 3500 more: 13000, 4500, 4500.
        Check.due("one wheel", x.cheese(1), 1);
        Check.due("wheels of 2", x.told(2, 10), 1);
        Check.due("rest of 2", x.rest(2), 3000);

        // Of several with the least rest the first gives it back.
        AlpCommune y = meadow(5);
        milk(y, 1, 1, 1, 1, 1);
        y.cheese(2);
        // Two by 0, 0, 6, 6, 6 of 18: 6666 more: 10666 each.
        y.drive(2, 0, 6);
        y.drive(3, 0, 6);
        y.drive(4, 0, 6);
        y.days(1);
        y.measure();
        y.cheese(2);
        int[] given = {1, 1, 0, 1, 1};
        for (int h = 0; h < 5; h++) Check.due("wheels of " + h, y.told(h, 10), given[h]);
        Check.due("rest of 2", y.rest(2), 10666);

        // House 0 is the first of them.
        AlpCommune z = meadow(5);
        milk(z, 10, 10, 10, 11, 11);
        z.cheese(2);
        int[] left = {3846, 3846, 3846, -5770, -5770};
        for (int h = 0; h < 5; h++) Check.due("rest of " + h, z.rest(h), left[h]);
        z.drive(0, 0, 6);
        z.drive(1, 0, 6);
        z.drive(2, 0, 6);
        z.days(1);
        z.measure();
        z.cheese(2);
        int[] back = {0, 1, 1, 1, 1}, backRests = {10512, 512, 512, -5770, -5770};
        for (int h = 0; h < 5; h++) {
            Check.due("wheels of " + h, z.told(h, 10), back[h]);
            Check.due("rest of " + h, z.rest(h), backRests[h]);
        }
    }
}
