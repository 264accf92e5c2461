/** Boundary cases of "==== 4", (a) to (d): snow, grass, cows, hay, fines; a test for each sentence. */
public final class BoundsGrazingTest extends Check {
    public static void main(String[] args) throws IllegalAccessException {
        runSentences(BoundsGrazingTest.class);
    }

    /** An alp of a height and an area, on which each day's SNOW and GRASS are as told: {WARM, FALL, SNOW, GRASS}. */
    private static void lives(int height, int area, int[]... days) {
        AlpCommune x = new AlpCommune();
        x.alp(height, area);
        for (int[] day : days) {
            Communes.live(x, day);
            String on = "height " + height + ", area " + area + ", day " + (x.count(3) - 1);
            due("SNOW, " + on, x.alpOf(0, 3), day[2]);
            due("GRASS, " + on, x.alpOf(0, 2), day[3]);
        }
    }

    static void t4_ifWIs2OrLessSnowIsFallMore() {
        sentence("W is WARM less 5 times HEIGHT. If W is 2 or less SNOW is FALL more");
        lives(0, 10, new int[] {2, 7, 7, 0}, new int[] {3, 7, 1, 0});
        lives(1, 10, new int[] {7, 7, 7, 0}, new int[] {8, 7, 1, 0});
        lives(3, 10, new int[] {17, 200, 200, 0}, new int[] {18, 200, 194, 0}, new int[] {-40, 200, 394, 0});
        lives(2, 10, new int[] {-40, 0, 0, 0}, new int[] {12, 1, 1, 0}, new int[] {13, 1, 0, 3});
    }

    static void t4_else2TimesWLess0AtLeast() {
        sentence("else 2 times W less (0 at least).");
        lives(0, 10, new int[] {0, 6, 6, 0}, new int[] {3, 0, 0, 3});
        lives(0, 10, new int[] {0, 7, 7, 0}, new int[] {3, 0, 1, 0}, new int[] {3, 0, 0, 3});
        lives(0, 10, new int[] {0, 5, 5, 0}, new int[] {3, 0, 0, 3});
        lives(0, 10, new int[] {0, 200, 200, 0}, new int[] {40, 0, 120, 0}, new int[] {40, 0, 40, 0}, new int[] {40, 0, 0, 20});
        lives(3, 10, new int[] {0, 51, 51, 0}, new int[] {40, 0, 1, 0}, new int[] {40, 0, 0, 20});
        lives(0, 10, new int[] {3, 99, 0, 3});
    }

    static void t4_ifSnowIs0ThenAndWAbove0() {
        sentence("If SNOW is 0 then and W above 0");
        lives(0, 10, new int[] {0, 0, 0, 0}, new int[] {1, 0, 0, 1}, new int[] {-1, 0, 0, 1}, new int[] {2, 0, 0, 3});
        lives(0, 10, new int[] {1, 1, 1, 0}, new int[] {1, 0, 1, 0}, new int[] {2, 0, 1, 0}, new int[] {4, 0, 0, 4});
        lives(1, 10, new int[] {5, 0, 0, 0}, new int[] {6, 0, 0, 1});
        lives(3, 10, new int[] {15, 0, 0, 0}, new int[] {16, 0, 0, 1}, new int[] {16, 2, 2, 1});
    }

    static void t4_theLesserOfWAnd20() {
        sentence("GRASS is the lesser of W and 20");
        lives(0, 30, new int[] {19, 0, 0, 57}, new int[] {20, 0, 0, 117}, new int[] {21, 0, 0, 177}, new int[] {40, 0, 0, 237});
        lives(3, 30, new int[] {34, 0, 0, 57}, new int[] {35, 0, 0, 117}, new int[] {36, 0, 0, 177}, new int[] {40, 0, 0, 237});
    }

    static void t4_timesAreaBy10Cut() {
        sentence("times AREA by 10 (cut), more");
        lives(0, 1, new int[] {9, 0, 0, 0}, new int[] {10, 0, 0, 1}, new int[] {19, 0, 0, 2}, new int[] {20, 0, 0, 4});
        lives(0, 99, new int[] {1, 0, 0, 9}, new int[] {2, 0, 0, 28}, new int[] {40, 0, 0, 226});
        lives(0, 7, new int[] {3, 0, 0, 2}, new int[] {5, 0, 0, 5}, new int[] {1, 0, 0, 5});
    }

    static void t4_10TimesAreaAtMost() {
        sentence("more (10 times AREA at most).");
        lives(0, 1, new int[] {20, 0, 0, 2}, new int[] {20, 0, 0, 4}, new int[] {20, 0, 0, 6}, new int[] {20, 0, 0, 8},
            new int[] {10, 0, 0, 9}, new int[] {20, 0, 0, 10}, new int[] {20, 0, 0, 10});
        lives(0, 10, new int[] {20, 0, 0, 20}, new int[] {20, 0, 0, 40}, new int[] {20, 0, 0, 60}, new int[] {20, 0, 0, 80},
            new int[] {20, 0, 0, 100}, new int[] {1, 0, 0, 100});
        AlpCommune x = new AlpCommune();
        x.alp(0, 99);
        x.weather(0, 0, 40);
        x.days(5);
        due("990 on the fifth day", x.alpOf(0, 2), 990);
        x.days(1);
        due("990 at most", x.alpOf(0, 2), 990);
    }

    /** Grass of W 10 on an area: as much as the area a day. Cows of two houses are up from the first day on. */
    private static AlpCommune pasture(int area, int of0, int of1) {
        AlpCommune x = Communes.free(99, 99);
        x.alp(0, area);
        x.weather(0, 0, 10);
        if (of0 > 0) x.drive(0, 0, of0);
        if (of1 > 0) x.drive(1, 0, of1);
        return x;
    }

    static void t4_asManyAreFedAsThereIsGrassFor() {
        sentence("each COW that is UP there wants 3 GRASS: as many are FED as there is GRASS for (3 each is gone)");
        int[] areas = {2, 3, 5, 6, 8, 9}, fed = {0, 1, 1, 2, 2, 3};
        for (int i = 0; i < areas.length; i++) {
            AlpCommune x = pasture(areas[i], 3, 0);
            x.days(1);
            due("MILK by " + areas[i], x.told(0, 7), 8 * fed[i]);
            due("HUNGRY by " + areas[i], x.told(0, 6), 3 - fed[i]);
            due("GRASS by " + areas[i], x.alpOf(0, 2), areas[i] - 3 * fed[i]);
        }
        AlpCommune more = pasture(11, 3, 0);
        more.days(1);
        due("more than they want", more.alpOf(0, 2), 2);
        due("HUNGRY", more.told(0, 6), 0);
    }

    static void t4_bEachAlpHousesByNumbers() {
        sentence("(b) Each ALP, HOUSES by numbers");
        AlpCommune x = pasture(15, 4, 3);
        x.days(1);
        due("MILK of 0, all are FED", x.told(0, 7), 32);
        due("MILK of 1, one is FED", x.told(1, 7), 8);
        due("HUNGRY of 0", x.told(0, 6), 0);
        due("HUNGRY of 1", x.told(1, 6), 2);
        AlpCommune y = pasture(12, 4, 3);
        y.days(1);
        due("MILK of 1, none is FED", y.told(1, 7), 0);
        due("HUNGRY of 1", y.told(1, 6), 3);
        AlpCommune z = pasture(10, 4, 3);
        z.days(1);
        due("MILK of 0, three are FED", z.told(0, 7), 24);
        due("HUNGRY of 0", z.told(0, 6), 1);
    }

    static void t4_eachThatIsFedGives8MilkToItsHouse() {
        sentence("each that is FED gives 8 MILK to its HOUSE, each other one is HUNGRY (a count of the HOUSE).");
        AlpCommune x = pasture(6, 3, 0);
        x.alp(0, 9);
        x.drive(0, 1, 4);
        x.days(1);
        due("MILK of two alps", x.told(0, 7), 8 * (2 + 3));
        due("HUNGRY of two alps", x.told(0, 6), 1 + 1);
        x.days(1);
        due("MILK of the day alone", x.told(0, 7), 8 * (2 + 3));
        due("HUNGRY of both days", x.told(0, 6), 4);
    }

    /** Four cows, and so much hay behind days that were lived. */
    private static int hayBehind(int days) {
        AlpCommune x = new AlpCommune();
        x.house(1, 1, 4, 99999);
        live(x, days);
        return 99999 - x.told(0, 3);
    }

    static void t4_ifSeasonIsBelow120Or300OrMore() {
        sentence("(c) If season is below 120, or 300 or more: each COW at home wants 1 HAY of its HOUSE");
        int[] days = {1, 119, 120, 121, 300, 301, 360, 361, 480, 481, 660, 661}, wants = {1, 119, 120, 120, 120, 121, 180, 181, 300, 300, 300, 301};
        for (int i = 0; i < days.length; i++) due("HAY of " + days[i] + " days", hayBehind(days[i]), 4 * wants[i]);
        AlpCommune x = Communes.free(4);
        x.alp(0, 99);
        x.drive(0, 0, 3);
        x.days(1);
        due("of those at home", x.told(0, 3), 99998);
        x.drive(0, 0, 1);
        x.days(1);
        due("none at home", x.told(0, 3), 99998);
    }

    static void t4_asFarAsThereIsSome() {
        sentence("as far as there is some; each other one is HUNGRY.");
        int[] hay = {5, 4, 3, 1, 0}, left = {1, 0, 0, 0, 0}, hungry = {0, 0, 1, 3, 4};
        for (int i = 0; i < hay.length; i++) {
            AlpCommune x = new AlpCommune();
            x.house(1, 1, 4, hay[i]);
            x.house(1, 1, 4, 99);
            x.days(1);
            due("HAY " + hay[i], x.told(0, 3), left[i]);
            due("HUNGRY by HAY " + hay[i], x.told(0, 6), hungry[i]);
            due("each its own", x.told(1, 3), 95);
        }
    }

    /** Two cows of house 0 are up, one of them on each of two alps, and one of house 1; on a day. */
    private static AlpCommune upOn(int day, String... words) {
        AlpCommune x = Communes.free(5, 5, 5);
        x.alp(0, 99);
        x.alp(0, 99);
        live(x, day);
        x.drive(0, 0, 1);
        x.drive(0, 1, 1);
        x.drive(1, 1, 1);
        for (String word : words) pass(x, word);
        return x;
    }

    private static void fined(String what, AlpCommune x, int cow) {
        x.days(1);
        due(what + ", DEBT of 0", x.told(0, 4), 2 * cow);
        due(what + ", DEBT of 1", x.told(1, 4), cow);
        due(what + ", DEBT of 2, none is UP", x.told(2, 4), 0);
    }

    static void t4_ifSeasonIsNotBelowTillOfAHouseOrBelowItsFrom() {
        sentence("(d) If season is not below till of a HOUSE, or below its from: its DEBT grows by fine for each of its COWS that are UP.");
        fined("till 10 on 9", upOn(9, "till 10"), 0);
        fined("till 10 on 10", upOn(10, "till 10"), 5);
        fined("till 10 on 11", upOn(11, "till 10"), 5);
        fined("till 10 in the second year", upOn(369, "till 10"), 0);
        fined("till 10 in the second year", upOn(370, "till 10"), 5);
        fined("from 10 on 9", upOn(9, "from 10"), 5);
        fined("from 10 on 10", upOn(10, "from 10"), 0);
        fined("both", upOn(9, "from 10", "till 9"), 5);
        fined("by fine 7", upOn(9, "from 10", "fine 7"), 7);
        fined("by fine 0", upOn(9, "from 10", "fine 0"), 0);
        fined("fine 99999", upOn(9, "from 10", "fine 99999"), 99999);
        AlpCommune x = upOn(9, "from 10 if cows<5", "fine 7 if cows=4");
        x.change(0, 2, 4);
        x.days(1);
        due("of a HOUSE of its own", x.told(0, 4), 14);
        due("of a HOUSE of its own", x.told(1, 4), 0);
        AlpCommune two = upOn(8, "from 10");
        two.days(3);
        due("on two of three days", two.told(0, 4), 20);
    }

    static void t4_itsDebtGrowsByFineForEachOfItsCowsThatAreUp() {
        sentence("its DEBT grows by fine for each of its COWS that are UP.");
        // 99 cows, fine 99999: 9899901 a day, ten times, and then no more than there is room for.
        AlpCommune x = Communes.free(99);
        x.alp(0, 1);
        x.drive(0, 0, 99);
        pass(x, "from 300");
        pass(x, "fine 99999");
        x.days(10);
        due("DEBT of ten days", x.told(0, 4), 98999010);
        x.days(1);
        due("DEBT at most", x.told(0, 4), 99999999);
        x.days(120);
        due("DEBT at most", x.told(0, 4), 99999999);
    }

    static void t4_milkOfTheDayOfEachHouseIsWhatItGotInB() {
        sentence("MILK of the DAY, of each HOUSE, is what it got in (b). DAY is 1 more.");
        AlpCommune x = pasture(99, 5, 0);
        x.days(1);
        due("MILK", x.told(0, 7), 40);
        due("DAY", x.count(3), 1);
        x.home(0, 0, 5);
        x.days(1);
        due("none", x.told(0, 7), 0);
        due("DAY", x.count(3), 2);
        x.house(1, 1, 5, 0);
        due("a house that came since", x.told(2, 7), 0);
    }
}
