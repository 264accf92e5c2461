/** Numbers that grow come to the greatest that the document (and an object's 512 calls) let them have. */
public final class GreatestTest extends Check {
    public static void main(String[] args) throws IllegalAccessException {
        runSentences(GreatestTest.class);
    }

    /** Ten houses of 99 cows that may all go up, and four alps. */
    private static AlpCommune tenHerds(int height, int area) {
        AlpCommune x = Communes.free(99, 99, 99, 99, 99, 99, 99, 99, 99, 99);
        for (int alp = 0; alp < 4; alp++) x.alp(height, area);
        return x;
    }

    static void t1_99999999AtMost() {
        sentence("99999999 at most: what would go beyond that doesn't become DEBT");
        AlpCommune x = new AlpCommune();
        for (int h = 0; h < 10; h++) x.house(9, 20, 99, 99999);
        pass(x, "fine 99999");
        pass(x, "heads 99999");
        due("coins of ten houses", x.year(), 999999990);
        for (int h = 0; h < 10; h++) due("DEBT of " + h, x.told(h, 4), 99999999);
        live(x, 360);
        due("no more coins", x.year(), 0);
        due("DEBT", x.told(9, 4), 99999999);
    }

    static void t3_thoseUpInAllWithTheseTimesFeet() {
        sentence("those UP in all, with these, times feet are more than PARTS of the COMMON 0 that it HOLDS");
        AlpCommune x = Communes.free(99);
        x.alp(0, 9);
        for (int r = 0; r < 50; r++) x.right(0, 1, 999);
        pass(x, "feet 505");
        due("99 by 505", x.drive(0, 0, 99), -23);
        pass(x, "feet 504");
        due("99 by 504 are 49896 of 49950", x.drive(0, 0, 99), 99);
        x.home(0, 0, 99);
        pass(x, "feet 99999");
        due("99 by 99999", x.drive(0, 0, 99), -23);
        due("1 by 99999", x.drive(0, 0, 1), -23);
        pass(x, "feet 49950");
        due("1 by 49950", x.drive(0, 0, 1), 1);
        due("2 by 49950", x.drive(0, 0, 1), -23);
    }

    static void t4_snowIsFallMore() {
        sentence("If W is 2 or less SNOW is FALL more");
        AlpCommune x = new AlpCommune();
        x.alp(3, 99);
        Communes.sky(x, 0, 17, 200);
        live(x, 7199);
        due("SNOW of 7199 days", x.alpOf(0, 3), 200 * 7199);
        AlpCommune y = new AlpCommune();
        y.alp(0, 99);
        Communes.sky(y, 0, 2, 200);
        Communes.sky(y, 7198, 40, 0);
        live(y, 7199);
        due("SNOW, a last warm day", y.alpOf(0, 3), 200 * 7198 - 80);
    }

    static void t4_eachOtherOneIsHungry() {
        sentence("each that is FED gives 8 MILK to its HOUSE, each other one is HUNGRY (a count of the HOUSE).");
        AlpCommune x = tenHerds(3, 1);
        for (int h = 0; h < 10; h++) due("drive of " + h, x.drive(h, h % 4, 99), 99);
        live(x, 7199);
        for (int h = 0; h < 10; h++) due("HUNGRY of " + h, x.told(h, 6), 99 * 7199);
        AlpCommune home = new AlpCommune();
        home.house(1, 1, 99, 0);
        live(home, 7199);
        due("HUNGRY at home, 180 days a year; day 7199 is yet to come", home.told(0, 6), 99 * (20 * 180 - 1));
    }

    static void t4_ofMoreThan6TheTwoLowestBecomeOne() {
        sentence("of more than 6 the two lowest become one (SOFT if either is).");
        AlpCommune x = new AlpCommune();
        x.slope(400);
        Communes.sky(x, 0, -5, 200);
        live(x, 7199);
        due("LAYERS", x.slopeOf(0, 2), 6);
        due("the lowest", x.slopeOf(0, 10), 200 * 7194);
        due("the uppermost", x.slopeOf(0, 15), 200);
        due("all that lies there", x.slopeOf(0, 3), 200 * 7199);
        due("RISK", x.slopeOf(0, 4), 0);
        AlpCommune y = new AlpCommune();
        y.slope(400);
        y.works(0, true);
        Communes.sky(y, 0, -4, 200);
        Communes.sky(y, 1, -4, 29);
        live(y, 7199);
        due("a SOFT one with 145 over it, by HOLDS 150", y.slopeOf(0, 10), -200 - 29 * 7193);
        due("RISK", y.slopeOf(0, 4), 96);
        due("it never SLID", y.slopeOf(0, 6), 0);
    }

    static void t4_aSlideIsTold() {
        sentence("a SLIDE is told: if THE WAY was not SHUT, it is MISSED. If THE WAY was SHUT, and no SLOPE SLID: a day SHUT in vain.");
        for (boolean shut : new boolean[] {false, true}) {
            AlpCommune x = new AlpCommune();
            for (int s = 0; s < 6; s++) x.slope(s * 80);
            x.shut(shut);
            Communes.sky(x, 0, 0, 200);
            live(x, 7199);
            // A SOFT layer on the even days, and on the odd ones a SLIDE of it.
            due("SLIDES", x.count(7), 6 * 3599);
            due("MISSED", x.count(8), shut ? 0 : 6 * 3599);
            due("SHUT in vain", x.count(9), shut ? 3600 : 0);
            due("of one SLOPE", x.slopeOf(5, 6), 3599);
        }
        AlpCommune none = new AlpCommune();
        none.shut(true);
        live(none, 7199);
        due("SHUT in vain", none.count(9), 7199);
    }

    /** Two houses, each with 99 cows up that are fed on each of so many days, which are measured. */
    private static AlpCommune milked(int days) {
        AlpCommune x = Communes.free(99, 99);
        for (int alp = 0; alp < 4; alp++) x.alp(0, 99);
        x.weather(0, 0, 40);
        x.days(10);
        for (int h = 0; h < 2; h++) {
            x.drive(h, 2 * h, 50);
            x.drive(h, 2 * h + 1, 49);
        }
        for (int i = 0; i < days; i++) {
            x.days(1);
            due("MILK", x.measure(), 1584);
        }
        return x;
    }

    static void t5_nTimesSumTimes10000ByAllSums() {
        sentence("each HOUSE has n times SUM times 10000 by all SUMS, cut");
        AlpCommune x = milked(225);
        due("SUM", x.told(0, 8), 225 * 792);
        due("wheels", x.cheese(9999), 9999);
        due("of 0", x.told(0, 10), 5000);
        due("of 1", x.told(1, 10), 4999);
        due("REST of 0", x.rest(0), -5000);
        due("REST of 1", x.rest(1), 5000);
        AlpCommune y = milked(100);
        y.home(0, 0, 50);
        y.home(0, 1, 49);
        for (int i = 0; i < 100; i++) {
            y.days(1);
            y.measure();
        }
        due("SUM of 0", y.told(0, 8), 100 * 792);
        due("SUM of 1", y.told(1, 8), 200 * 792);
        y.cheese(9999);
        due("a third", y.told(0, 10), 3333);
        due("two thirds", y.told(1, 10), 6666);
    }

    static void p45_10WheelsGivenInAll() {
        sentence("10 WHEELS given in all");
        AlpCommune x = Communes.free(99);
        x.alp(0, 99);
        x.weather(0, 0, 20);
        x.days(9);
        x.drive(0, 0, 1);
        for (int i = 1; i <= 150; i++) {
            x.days(1);
            x.measure();
            due("cheese " + i, x.cheese(9999), 9999);
        }
        due("in all", x.count(10), 150 * 9999);
        due("of one house", x.told(0, 10), 150 * 9999);
    }

    static void p31_allItsMilk() {
        sentence("The DAY lived last is MEASURED: all its MILK.");
        AlpCommune x = tenHerds(0, 99);
        x.weather(0, 0, 20);
        x.days(10);
        for (int h = 0; h < 10; h++) x.drive(h, h % 4, 99);
        x.days(1);
        // Alps 0 and 1 have three herds, of which 297 of 330 are fed; 2 and 3 have two.
        due("MILK of 990 cows", x.measure(), 7920);
        due("MILK of one house", x.told(9, 7), 792);
    }

    static void p39_howManyItHasDoneThisYear() {
        sentence("n (1 .. 999) works are done by a HOUSE: how many it has done this YEAR.");
        AlpCommune x = new AlpCommune();
        x.house(1, 20, 0, 0);
        pass(x, "heads 99999");
        pass(x, "fine 66");
        for (int i = 1; i <= 490; i++) due("work " + i, x.work(0, 999), 999 * i);
        // 1999980 less 489510 by 66: 99691020.
        due("what is not done", x.year(), 66 * (20 * 99999 - 490 * 999));
    }

    static void p41_theFewestHungry() {
        sentence("PLAN for a set of HOUSES and n DAYS: the fewest HUNGRY (what 0)");
        AlpCommune x = tenHerds(3, 1);
        for (int h = 5; h < 10; h++) x.drive(h, 3, 99);
        due("990 cows, 30 days", x.plan(31, 30, 0), 990 * 30);
        for (int m = 1; m <= 5; m++) due("all alike, the first of all", x.plan(31, 30, m), 0);
        due("those that are UP", x.alpOf(3, 4), 495);
    }

    static void t2_dayBy360DayModulo360() {
        sentence("year, season: of the DAY a (DAY by 360, DAY modulo 360).");
        AlpCommune x = Communes.withHouses(1);
        pass(x, "rate 1 if year>99999 and season=127");
        due("the greatest a", x.value(0, 0, MOST, MOST), 1);
        due("99999 years", x.value(0, 0, 99999 * 360 + 127, 0), 30);
        due("100000 years", x.value(0, 0, 100000 * 360 + 127, 0), 1);
        due("a day less", x.value(0, 0, MOST - 1, MOST), 30);
    }

    static void t5_lotTimesItsHearthsAtMost() {
        sentence("each HOUSE gets lot times its HEARTHS at most");
        AlpCommune x = new AlpCommune();
        for (int h = 0; h < 10; h++) x.house(9, 1, 0, 0);
        pass(x, "lot 99999");
        for (int s = 0; s < 6; s++) {
            x.slope(400);
            due("LOGS", x.fell(s, 9), 100);
        }
        due("all to one", x.told(9, 11), 600);
        due("in all", x.count(11), 600);
    }
}
