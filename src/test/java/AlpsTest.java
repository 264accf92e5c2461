/** Promises 21 to 26 (but for slopes): alp, alpOf, drive, home, book, days. */
public final class AlpsTest {
    public static void main(String[] args) {
        alp();
        alpOf();
        driveAnswers();
        driveWhys();
        driveLent();
        home();
        book();
        bookKeepsTheFirst();
        daysAnswers();
        snowAndGrass();
        grazing();
        winter();
        fines();
        finesHaveAnEnd();
        Check.end();
    }

    private static void alp() {
        AlpCommune x = new AlpCommune();
        for (int height : Check.outside(0, 3)) Check.due("height " + height, x.alp(height, 1), -2);
        for (int area : Check.outside(1, 99)) Check.due("area " + area, x.alp(0, area), -2);
        Check.due("the least", x.alp(0, 1), 0);
        Check.due("the greatest", x.alp(3, 99), 1);
        Check.due("alp", x.alp(1, 2), 2);
        Check.due("alp", x.alp(1, 2), 3);
        Check.due("FULL", x.alp(1, 2), -4);
        Check.due("BAD ahead of FULL", x.alp(4, 2), -2);
        Check.due("count(4)", x.count(4), 4);
    }

    private static void alpOf() {
        AlpCommune x = new AlpCommune();
        Check.due("none yet", x.alpOf(0, 0), -5);
        x.alp(2, 30);
        x.house(1, 1, 5, 0);
        for (int alp : Check.outside(0, 0)) Check.due("alp " + alp, x.alpOf(alp, 0), -5);
        for (int what : Check.outside(0, 5)) Check.due("what " + what, x.alpOf(0, what), -5);
        int[] first = {2, 30, 0, 0, 0, 0};
        for (int what = 0; what < 6; what++) Check.due("alpOf " + what, x.alpOf(0, what), first[what]);
    }

    /** Two houses, two alps, on day 150; house 0 may drive up 10 cows at most. */
    private static AlpCommune summer() {
        AlpCommune x = new AlpCommune();
        x.house(1, 1, 20, 99999);
        x.house(1, 1, 20, 99999);
        x.right(0, 1, 40);
        x.right(1, 1, 80);
        x.alp(0, 10);
        x.alp(1, 20);
        x.counts();
        Check.live(x, 150);
        return x;
    }

    private static void driveAnswers() {
        AlpCommune x = summer();
        for (int h : Check.outside(0, 1)) Check.due("house " + h, x.drive(h, 0, 1), -1);
        for (int alp : Check.outside(0, 1)) Check.due("alp " + alp, x.drive(0, alp, 1), -1);
        for (int n : Check.outside(1, 99)) Check.due("n " + n, x.drive(0, 0, n), -2);
        Check.due("NONE ahead of BAD", x.drive(2, 0, 0), -1);
        Check.due("drive", x.drive(0, 0, 3), 3);
        Check.due("more", x.drive(0, 0, 2), 5);
        Check.due("another alp", x.drive(0, 1, 4), 4);
        Check.due("another house", x.drive(1, 1, 9), 9);
        Check.due("at home", x.told(0, 5), 11);
        int[] there = {1, 20, 0, 0, 13, 4, 9};
        for (int what = 0; what < 7; what++) Check.due("alpOf " + what, x.alpOf(1, what), there[what]);
        Check.due("no such house", x.alpOf(1, 7), -5);
        Check.due("count(6)", x.count(6), 4);
    }

    private static void driveWhys() {
        AlpCommune x = summer();
        Check.due("not so many at home", x.drive(0, 0, 21), -21);
        Check.due("feet", x.drive(0, 0, 11), -23);
        Check.due("as feet go", x.drive(0, 0, 9), 9);
        Check.due("feet of both alps", x.drive(0, 1, 2), -23);
        Check.due("as feet go", x.drive(0, 1, 1), 1);
        Check.due("why 1 ahead of 3", x.drive(0, 1, 11), -21);
        Check.due("a DRIVE that isn't is none", x.count(6), 2);

        AlpCommune y = summer();
        y.change(1, 3, 100);
        y.counts();
        Check.due("wintered: 3", y.drive(1, 0, 4), -24);
        Check.due("wintered: 3", y.drive(1, 0, 3), 3);
        Check.due("wintered, with those up", y.drive(1, 1, 1), -24);
        y.change(1, 3, 99999);
        Check.due("as last counted", y.drive(1, 1, 1), -24);
        Check.pass(y, "rate 25");
        Check.due("by another rate", y.drive(1, 1, 1), 1);
        Check.due("by another rate", y.drive(1, 1, 1), -24);
        Check.pass(y, "rate 0");
        Check.due("rate 0 is no bound", y.drive(1, 1, 16), 17);
        Check.due("none at home", y.drive(1, 1, 1), -21);
        Check.pass(y, "feet 5");
        Check.due("feet 5", y.drive(0, 1, 9), -23);
        Check.due("feet 5", y.drive(0, 1, 8), 8);
        Check.due("feet 0", Check.pass(y, "feet 0 unless cows<20"), 3);
        Check.due("feet 0", y.drive(0, 1, 12), 20);

        AlpCommune one = summer();
        one.change(0, 3, 2);
        one.counts();
        Check.pass(one, "rate 1");
        Check.due("rate 1", one.drive(0, 0, 3), -24);
        Check.due("rate 1", one.drive(0, 0, 2), 2);

        AlpCommune z = summer();
        Check.pass(z, "from 151");
        Check.due("ahead of from", z.drive(0, 0, 20), -22);
        z.days(1);
        Check.due("on from", z.drive(0, 0, 1), 1);
        Check.pass(z, "till 152");
        Check.due("ahead of till", z.drive(0, 0, 1), 2);
        z.days(1);
        Check.due("on till", z.drive(0, 0, 1), -22);
        Check.due("why 1 ahead of 2", z.drive(0, 0, 19), -21);
        Check.pass(z, "from 0");
        Check.pass(z, "till 99999");
        Check.live(z, 360 - 152);
        Check.due("a year behind", z.drive(0, 0, 1), 3);
        Check.pass(z, "from 1");
        Check.due("season 0 again", z.drive(0, 0, 1), -22);
    }

    private static void driveLent() {
        AlpCommune x = summer();
        x.lend(1, 0, 152);
        Check.due("with what is lent to it", x.drive(0, 0, 20), 20);
        Check.due("without what it lent away", x.drive(1, 0, 1), -23);
        x.days(2);
        Check.due("back", x.drive(1, 0, 20), 20);
    }

    private static void home() {
        AlpCommune x = summer();
        x.drive(0, 0, 5);
        x.drive(1, 0, 6);
        for (int h : Check.outside(0, 1)) Check.due("house " + h, x.home(h, 0, 1), -1);
        for (int alp : Check.outside(0, 1)) Check.due("alp " + alp, x.home(0, alp, 1), -1);
        for (int n : Check.outside(1, 5)) Check.due("n " + n, x.home(0, 0, n), -2);
        Check.due("none there", x.home(0, 1, 1), -2);
        Check.due("NONE ahead of BAD", x.home(0, 2, 0), -1);
        Check.due("home", x.home(0, 0, 2), 3);
        Check.due("at home", x.told(0, 5), 17);
        Check.due("on the alp", x.alpOf(0, 4), 9);
        Check.due("all home", x.home(0, 0, 3), 0);
        Check.due("none any more", x.home(0, 0, 1), -2);
        x.change(0, 2, 99);
        Check.pass(x, "feet 0");
        Check.due("as many as can be", x.drive(0, 1, 99), 99);
        Check.due("more than can be", x.home(0, 1, 100), -2);
        Check.due("all of them", x.home(0, 1, 99), 0);
    }

    private static void book() {
        AlpCommune x = summer();
        Check.due("none yet", x.book(0, 0), -5);
        Check.pass(x, "rate 7");
        x.drive(1, 1, 3);
        Check.pass(x, "feet 2 unless cows=9");
        x.days(1);
        x.drive(0, 0, 2);
        x.change(0, 2, 9);
        x.drive(0, 0, 1);
        int[][] drives = {{150, 1, 1, 3, -1, 0}, {151, 0, 0, 2, 1, 0}, {151, 0, 0, 1, -1, 0}};
        for (int i = 0; i < 3; i++) {
            for (int what = 0; what < 6; what++) Check.due("book " + i + " " + what, x.book(i, what), drives[i][what]);
        }
        for (int i : Check.outside(0, 2)) Check.due("drive " + i, x.book(i, 0), -5);
        for (int what : Check.outside(0, 5)) Check.due("what " + what, x.book(0, what), -5);
    }

    private static void bookKeepsTheFirst() {
        AlpCommune x = summer();
        Check.pass(x, "rate 1");
        for (int i = 0; i < 203; i++) {
            Check.due("drive " + i, x.drive(0, 0, i % 3 + 1), i % 3 + 1);
            Check.due("home " + i, x.home(0, 0, i % 3 + 1), 0);
        }
        Check.due("all are counted", x.count(6), 203);
        Check.due("the 200th", x.book(199, 3), 2);
        Check.due("not kept", x.book(200, 3), -5);
        Check.due("not kept", x.book(202, 3), -5);
        Check.due("void: those that are kept", x.voids(0), 200);
    }

    private static void daysAnswers() {
        AlpCommune x = new AlpCommune();
        for (int n : Check.outside(1, 120)) Check.due("n " + n, x.days(n), -2);
        Check.due("BAD lives none", x.count(3), 0);
        Check.due("days(1)", x.days(1), 1);
        for (int i = 1; i < 60; i++) Check.due("days(120)", x.days(120), i * 120 + 1);
        Check.due("beyond 7199", x.days(119), -2);
        Check.due("up to 7199", x.days(118), 7199);
        Check.due("beyond 7199", x.days(1), -2);
        Check.due("beyond 7199", x.days(120), -2);
        Check.due("count(3)", x.count(3), 7199);
    }

    private static void snowAndGrass() {
        AlpCommune x = new AlpCommune();
        x.alp(0, 15);
        x.alp(2, 15);
        int[][] sky = {{2, 30}, {3, 50}, {10, 10}, {5, 0}, {1, 0}, {25, 0}, {12, 99}, {13, 99}, {40, 0}, {-9, 7}, {8, 1}};
        int[][] snow = {{30, 30}, {24, 80}, {4, 90}, {0, 90}, {0, 90}, {0, 60}, {0, 159}, {0, 153}, {0, 93}, {7, 100}, {0, 101}};
        int[][] grass = {{0, 0}, {0, 0}, {0, 0}, {7, 0}, {8, 0}, {38, 0}, {56, 0}, {75, 0}, {105, 0}, {105, 0}, {117, 0}};
        for (int day = 0; day < sky.length; day++) {
            x.weather(day, 0, sky[day][0]);
            x.weather(day, 1, sky[day][1]);
        }
        for (int day = 0; day < sky.length; day++) {
            x.days(1);
            for (int alp = 0; alp < 2; alp++) {
                Check.due("SNOW of " + alp + " behind day " + day, x.alpOf(alp, 3), snow[day][alp]);
                Check.due("GRASS of " + alp + " behind day " + day, x.alpOf(alp, 2), grass[day][alp]);
            }
        }
        x.weather(11, 0, 20);
        x.days(1);
        Check.due("GRASS below 10 times AREA", x.alpOf(0, 2), 147);
        Check.due("SNOW melts by height", x.alpOf(1, 3), 81);
        x.days(1);
        Check.due("GRASS up to 10 times AREA", x.alpOf(0, 2), 150);
        x.days(3);
        Check.due("SNOW, a rest", x.alpOf(1, 3), 1);
        Check.due("no GRASS under it", x.alpOf(1, 2), 0);
        x.days(1);
        Check.due("SNOW is gone", x.alpOf(1, 3), 0);
        Check.due("GRASS on the day the snow is gone", x.alpOf(1, 2), 15);

        AlpCommune cold = new AlpCommune();
        cold.alp(0, 99);
        cold.weather(0, 0, 0);
        cold.days(1);
        Check.due("W 0", cold.alpOf(0, 2), 0);
        cold.weather(1, 0, -3);
        cold.days(1);
        Check.due("W below 0", cold.alpOf(0, 2), 0);
        cold.weather(2, 0, 1);
        cold.days(1);
        Check.due("W 1, cut", cold.alpOf(0, 2), 9);
        cold.weather(3, 0, 2);
        cold.weather(3, 1, 1);
        cold.days(1);
        Check.due("W 2, with snow", cold.alpOf(0, 2), 9);
        Check.due("W 2, with snow", cold.alpOf(0, 3), 1);
    }

    private static void grazing() {
        AlpCommune x = new AlpCommune();
        x.house(1, 1, 20, 99999);
        x.house(1, 1, 20, 99999);
        x.house(1, 1, 20, 99999);
        for (int h = 0; h < 3; h++) x.right(h, 1, 999);
        x.alp(0, 10);
        x.alp(0, 10);
        x.counts();
        Check.live(x, 150);
        x.drive(0, 0, 10);
        x.drive(1, 0, 20);
        x.drive(2, 0, 10);
        x.drive(0, 1, 5);
        x.days(1);
        Check.due("GRASS", x.alpOf(0, 2), 1);
        Check.due("MILK of 0", x.told(0, 7), 8 * 15);
        Check.due("MILK of 1", x.told(1, 7), 8 * 20);
        Check.due("MILK of 2", x.told(2, 7), 8 * 3);
        Check.due("HUNGRY 0", x.told(0, 6), 0);
        Check.due("HUNGRY 2", x.told(2, 6), 7);
        x.days(1);
        Check.due("GRASS of 1 and of W 5 by 10", x.alpOf(0, 2), 0);
        Check.due("MILK of 0", x.told(0, 7), 8 * (2 + 5));
        Check.due("MILK of 1", x.told(1, 7), 0);
        Check.due("HUNGRY 0", x.told(0, 6), 8);
        Check.due("HUNGRY 1", x.told(1, 6), 20);
        Check.due("HUNGRY 2", x.told(2, 6), 17);
        Check.due("the SUM is measured alone", x.told(0, 8), 0);
        Check.due("GRASS of the other alp", x.alpOf(1, 2), 75);
    }

    private static void winter() {
        AlpCommune x = new AlpCommune();
        x.house(1, 1, 10, 15);
        x.house(1, 1, 3, 99999);
        x.house(1, 1, 0, 5);
        x.days(1);
        Check.due("HAY", x.told(0, 3), 5);
        Check.due("HUNGRY", x.told(0, 6), 0);
        x.days(1);
        Check.due("HAY", x.told(0, 3), 0);
        Check.due("HUNGRY", x.told(0, 6), 5);
        x.days(117);
        Check.due("day 119", x.told(1, 3), 99999 - 3 * 119);
        Check.due("HUNGRY", x.told(0, 6), 5 + 1170);
        x.days(1);
        Check.due("season 119", x.told(1, 3), 99999 - 3 * 120);
        x.days(1);
        Check.due("season 120", x.told(1, 3), 99999 - 3 * 120);
        Check.live(x, 300 - 121);
        Check.due("season 299", x.told(1, 3), 99999 - 3 * 120);
        Check.due("HUNGRY", x.told(0, 6), 5 + 1180);
        x.days(1);
        Check.due("season 300", x.told(1, 3), 99999 - 3 * 121);
        Check.live(x, 59);
        x.days(120);
        Check.due("a year and 120 days", x.told(1, 3), 99999 - 3 * 300);
        x.days(1);
        Check.due("season 120 again", x.told(1, 3), 99999 - 3 * 300);
        Check.due("no cows", x.told(2, 3), 5);
        Check.due("no MILK at home", x.told(1, 7), 0);

        AlpCommune y = new AlpCommune();
        y.house(1, 1, 10, 99999);
        y.right(0, 1, 999);
        y.alp(0, 9);
        y.counts();
        Check.pass(y, "from 0");
        y.drive(0, 0, 4);
        y.days(1);
        Check.due("those at home alone", y.told(0, 3), 99999 - 6);
    }

    private static void fines() {
        AlpCommune x = new AlpCommune();
        x.house(1, 1, 10, 99999);
        x.house(2, 1, 10, 99999);
        x.right(0, 1, 999);
        x.right(1, 1, 999);
        x.alp(0, 9);
        x.alp(0, 9);
        x.counts();
        Check.live(x, 150);
        x.drive(0, 0, 3);
        x.drive(0, 1, 1);
        x.drive(1, 0, 2);
        Check.live(x, 120);
        Check.due("till ahead of 270", x.told(0, 4), 0);
        x.days(1);
        Check.due("on 270", x.told(0, 4), 20);
        Check.due("on 270", x.told(1, 4), 10);
        Check.pass(x, "till 272 if hearths=1");
        Check.pass(x, "fine 7 if hearths=2");
        x.days(1);
        Check.due("by its own till", x.told(0, 4), 20);
        Check.due("by its own fine", x.told(1, 4), 10 + 14);
        x.days(1);
        Check.due("on 272", x.told(0, 4), 40);
        Check.pass(x, "till 400");
        Check.pass(x, "from 272");
        x.days(1);
        Check.due("behind from", x.told(0, 4), 40);
        Check.pass(x, "from 275 if season<275");
        x.days(2);
        Check.due("below from on 274 alone", x.told(0, 4), 60);
        // The words see the hay as it is behind that day's eating.
        AlpCommune y = new AlpCommune();
        y.house(1, 1, 10, 900);
        y.right(0, 1, 999);
        y.alp(0, 9);
        y.counts();
        Check.pass(y, "from 0");
        y.drive(0, 0, 1);
        Check.pass(y, "from 9 if hay<900");
        y.days(1);
        Check.due("hay 891", y.told(0, 4), 5);
    }

    private static void finesHaveAnEnd() {
        AlpCommune x = new AlpCommune();
        x.house(1, 1, 99, 99999);
        x.alp(0, 9);
        x.counts();
        Check.pass(x, "feet 0");
        Check.pass(x, "rate 0");
        Check.pass(x, "from 0");
        x.drive(0, 0, 99);
        Check.pass(x, "from 360");
        Check.pass(x, "fine 99999");
        x.days(10);
        Check.due("ten days", x.told(0, 4), 10 * 99 * 99999);
        x.days(1);
        Check.due("at most", x.told(0, 4), 99999999);
        x.days(1);
        Check.due("at most", x.told(0, 4), 99999999);
    }
}
