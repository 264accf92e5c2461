/** Boundary cases of "==== 6" (plans) and promise 41, a test for each sentence. */
public final class BoundsPlanTest extends Check {
    public static void main(String[] args) throws IllegalAccessException {
        runSentences(BoundsPlanTest.class);
    }

    /** Houses with cows, and alps of areas; each area is a day's GRASS (W 10), and none lies there yet. */
    private static AlpCommune land(int[] cows, int... areas) {
        AlpCommune x = Communes.free(cows);
        for (int area : areas) x.alp(0, area);
        x.weather(0, 0, 10);
        return x;
    }

    private static int[] row(int... v) {
        return v;
    }

    private static void plan(String what, AlpCommune x, int set, int n, int... due) {
        for (int i = 0; i < due.length; i++) due(what + ", plan(" + set + ", " + n + ", " + i + ")", x.plan(set, n, i), due[i]);
    }

    static void t6_forTheHousesToldASet5AtMost() {
        sentence("PLAN: for the HOUSES told (a set, 5 at most)");
        int[] ten = {3, 3, 3, 3, 3, 3, 3, 3, 3, 3};
        plan("one", land(ten, 9), 512, 1, 0, 0);
        plan("five", land(ten, 9), 0x3e0, 1, 12, 0, 0, 0, 0, 0, -1);
        plan("five", land(ten, 9, 9, 9, 9), 0x1f, 1, 3, 0, 0, 1, 2, 3, -1);
        refused("six", -2, () -> land(ten, 9), x -> x.plan(0x3f, 1, 0));
        refused("six", -2, () -> land(ten, 9), x -> x.plan(0x3f0, 30, 1));
        refused("ten", -2, () -> land(ten, 9), x -> x.plan(0x3ff, 1, 0));
    }

    static void t6_forNDays1_30FromNow() {
        sentence("each has all its COWS on one of the ALPS, for n DAYS (1 .. 30) from now, as (a), (b) say, with WARM and FALL as they count");
        // A GRASS of 9 each day for 4 cows: one is HUNGRY a day.
        plan("one day", land(row(4), 9), 1, 1, 1, 0);
        plan("two days", land(row(4), 9), 1, 2, 2, 0);
        plan("30 days", land(row(4), 9), 1, 30, 30, 0);
        for (int n : outside(1, 30)) refused("n " + n, -2, () -> land(row(4), 9), x -> x.plan(1, n, 0));
        AlpCommune x = land(row(4), 9);
        x.weather(1, 0, 0);
        x.weather(1, 1, 7);
        x.weather(2, 0, 4);
        x.weather(2, 1, 0);
        plan("days 0 to 3", x, 1, 4, 1 + 4 + 3 + 3, 0);
        x.days(1);
        plan("days 1 to 3", x, 1, 3, 1 + 3 + 3, 0);
        x.weather(0, 0, 40);
        plan("a day that is over does not count", x, 1, 3, 1 + 3 + 3, 0);
    }

    static void t6_asABSay() {
        sentence("as (a), (b) say, with WARM and FALL as they count");
        // HEIGHT 0, 1, 2, 3 by WARM 16: W 16, 11, 6, 1, and GRASS 16, 11, 6, 1 by AREA 10.
        int[] fed = {5, 3, 2, 0};
        for (int height = 0; height < 4; height++) {
            AlpCommune x = Communes.free(20);
            x.alp(height, 10);
            x.weather(0, 0, 16);
            plan("HEIGHT " + height, x, 1, 1, 20 - fed[height], 0);
        }
        // SNOW 30 of day 0 melts by 14 a day: 16, 2, 0 behind days 1, 2, 3; on 3 and 4 there is GRASS for 3 of 4.
        AlpCommune snow = Communes.free(4);
        snow.alp(0, 14);
        Communes.sky(snow, 0, 2, 30);
        Communes.sky(snow, 1, 7, 99);
        int[] hungry = {4, 8, 12, 13, 14};
        for (int n = 1; n <= 5; n++) plan("SNOW, " + n + " days", snow, 1, n, hungry[n - 1], 0);
        snow.days(1);
        for (int n = 1; n <= 4; n++) plan("SNOW that lies, " + n + " days", snow, 1, n, hungry[n] - 4, 0);
        due("a plan is not lived", snow.alpOf(0, 3), 30);
        due("nobody is HUNGRY for it", snow.told(0, 6), 0);
        // From day 1 on, with GRASS 10: 20 for 12, then SNOW 50 and 8 for 12, then SNOW 30 and 2 for 12.
        AlpCommune coming = Communes.free(4);
        coming.alp(0, 10);
        Communes.sky(coming, 0, 10, 0);
        Communes.sky(coming, 2, 0, 50);
        Communes.sky(coming, 3, 10, 0);
        coming.days(1);
        for (int n = 1; n <= 3; n++) plan("SNOW to come, " + n + " days", coming, 1, n, new int[] {0, 2, 6}[n - 1], 0);
        // GRASS up to 10 times AREA, by W 20 and more.
        AlpCommune x = Communes.free(20);
        x.alp(0, 3);
        x.weather(0, 0, 40);
        x.days(6);
        plan("30 GRASS and then 6 a day", x, 1, 2, 10 + 18, 0);
    }

    static void t6_cowsOfOtherHousesThatAreUpStaying() {
        sentence("COWS of other HOUSES that are UP staying: the fewest that are HUNGRY UP there in all (COWS of all HOUSES)");
        AlpCommune x = land(row(3, 9, 5), 12, 15);
        x.drive(1, 0, 4);
        // Alp 0 has GRASS for 4, alp 1 for 5. Of house 1 four are UP on alp 0, and five at home.
        plan("0 apart from them", x, 1, 1, 0, 1);
        plan("2 apart from them", x, 4, 1, 0, 1);
        plan("0 and 2", x, 5, 1, 3, 0, 1);
        plan("all of its own, none stays", x, 2, 1, 4, 1);
        plan("0 and 1", x, 3, 1, 4, 0, 1);
        x.drive(2, 1, 5);
        plan("those of 2 stay as well", x, 1, 1, 3, 0);
        AlpCommune y = land(row(1, 9), 3);
        y.drive(1, 0, 9);
        plan("HUNGRY ones of all HOUSES", y, 1, 1, 9, 0);
        AlpCommune z = land(row(0, 9), 3);
        z.drive(1, 0, 9);
        plan("HUNGRY ones of others alone", z, 1, 1, 8, 0);
    }

    static void t6_ofSeveralTheFirst() {
        sentence("of several the first (the first HOUSE's ALP the least, then the second one's).");
        plan("all alike", land(row(0, 0, 0), 9, 9, 9, 9), 7, 1, 0, 0, 0, 0);
        plan("apart, the first on the least", land(row(3, 3), 9, 9), 3, 1, 0, 0, 1);
        plan("the first house of the set", land(row(3, 3, 3), 9, 9), 6, 1, 0, 0, 1);
        plan("apart, not on 0", land(row(3, 3), 6, 9, 9), 3, 1, 0, 1, 2);
        plan("the second one on 0", land(row(3, 2), 6, 9), 3, 1, 0, 1, 0);
        plan("one to each", land(row(3, 3, 3, 3), 9, 9, 9, 9), 15, 1, 0, 0, 1, 2, 3);
        plan("the last plan of all", land(row(9, 9), 3, 27, 30), 3, 1, 0, 1, 2);
        plan("both on the last", land(row(5, 5), 3, 3, 30), 3, 1, 0, 2, 2);
        AlpCommune x = land(row(1, 9), 9, 27);
        plan("not the first of all", x, 2, 1, 0, 1);
        plan("the first of all, behind another plan", x, 1, 1, 0, 0);
    }

    static void p41_theAlpOfTheWhat1ThHouseOfTheSet() {
        sentence("the fewest HUNGRY (what 0), the ALP of the what - 1-th HOUSE of the set.");
        AlpCommune x = land(row(9, 1, 9, 3), 27, 3, 9, 27);
        plan("four", x, 15, 1, 0, 0, 1, 3, 2, -1);
        plan("two", x, 5, 1, 0, 0, 3, -1);
        plan("the last alone", x, 8, 1, 0, 0, -1);
    }

    static void p41_noneABitOfNoneNoHouseNoAlpsWhat() {
        sentence("NONE: a bit of none, no HOUSE, no ALPS, what; BAD");
        int[] cows = {4, 4, 4};
        for (int set : new int[] {8, 9, 15, 1 << 10, LEAST, -1, MOST}) {
            refused("set " + set, -1, () -> land(cows, 9), x -> x.plan(set, 1, 0));
            refused("NONE by set " + set + ", and BAD", -1, () -> land(cows, 9), x -> x.plan(set, 0, 0));
        }
        refused("no HOUSE told", -1, () -> land(cows, 9), x -> x.plan(0, 1, 0));
        refused("no HOUSE told, and BAD", -1, () -> land(cows, 9), x -> x.plan(0, 31, 0));
        due("no HOUSE at all", new AlpCommune().plan(0, 1, 0), -1);
        due("no HOUSE at all", new AlpCommune().plan(1, 1, 0), -1);
        refused("no ALPS", -1, () -> land(cows), x -> x.plan(7, 1, 0));
        refused("no ALPS, and BAD", -1, () -> land(cows), x -> x.plan(7, 31, 0));
        for (int what : outside(0, 3)) refused("what " + what, -1, () -> land(cows, 9), x -> x.plan(7, 1, what));
        for (int what : outside(0, 1)) refused("what " + what + " of one", -1, () -> land(cows, 9), x -> x.plan(2, 1, what));
        refused("NONE by what, and BAD", -1, () -> land(cows, 9), x -> x.plan(7, 0, 4));
        due("the last what", land(cows, 9).plan(7, 1, 3), 0);
        int[] six = {1, 1, 1, 1, 1, 1};
        due("six, the sixth's", land(six, 9).plan(63, 1, 6), -2);
        due("six, the seventh's", land(six, 9).plan(63, 1, 7), -1);
        due("six, what below 0", land(six, 9).plan(63, 1, -1), -1);
    }

    private static AlpCommune landOn(int day) {
        AlpCommune x = land(row(4), 1);
        live(x, day);
        return x;
    }

    /** A planned day is one of DAY, DAY + 1, .., and 7199 is the last that there is. */
    static void p41_badNMoreThan5HousesDaysBeyond7199() {
        sentence("BAD: n, more than 5 HOUSES, DAYS beyond 7199.");
        due("30 from 7170 on", landOn(7170).plan(1, 30, 0), 4 * 30 - (10 + 29) / 3);
        refused("30 from 7171 on", -2, () -> landOn(7171), x -> x.plan(1, 30, 0));
        due("29 from 7171 on", landOn(7171).plan(1, 29, 1), 0);
        due("1 from 7199 on", landOn(7199).plan(1, 1, 1), 0);
        refused("2 from 7199 on", -2, () -> landOn(7199), x -> x.plan(1, 2, 1));
        due("NONE and beyond 7199", landOn(7199).plan(1, 2, 2), -1);
    }
}
