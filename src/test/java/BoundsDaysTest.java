/** Boundary cases of "==== 3" and promises 18 to 26, a test for each sentence. */
public final class BoundsDaysTest extends Check {
    private static final int[] LEAST_SKY = {-40, 0}, MOST_SKY = {40, 200}, WITHOUT = {5, 0};

    public static void main(String[] args) throws IllegalAccessException {
        runSentences(BoundsDaysTest.class);
    }

    private static AlpCommune lastDay() {
        AlpCommune x = Communes.withHouses(2);
        x.alp(0, 50);
        x.slope(400);
        live(x, 7199);
        return x;
    }

    // ---- days and the sky

    static void t3_dayIs0AtFirst7199AtMost() {
        sentence("DAY is 0 at first, 7199 at most.");
        AlpCommune x = new AlpCommune();
        due("DAY at first", x.count(3), 0);
        for (int i = 1; i < 60; i++) due("days(120)", x.days(120), 120 * i);
        due("7200", x.days(120), -2);
        due("7199", x.days(119), 7199);
        due("7200", x.days(1), -2);
        due("DAY", x.count(3), 7199);
    }

    /** WARM or FALL is taken from least to most. */
    private static void skies(int what) {
        for (int v : new int[] {LEAST_SKY[what], MOST_SKY[what]}) {
            AlpCommune x = new AlpCommune();
            due("weather " + v, x.weather(3, what, v), 1);
            due("is", x.skyOf(3, what), v);
        }
        for (int v : outside(LEAST_SKY[what], MOST_SKY[what])) refused("weather " + v, -2, Communes::valley, x -> x.weather(152, what, v));
    }

    static void t3_warm40_40() {
        sentence("WARM (-40 .. 40)");
        skies(0);
    }

    static void t3_fall0_200() {
        sentence("FALL (0 .. 200)");
        skies(1);
    }

    static void t3_asOnTheNearestDayBeforeForWhichItWasTold() {
        sentence("then as on the nearest DAY before for which it was told (each alone), without any 5 and 0.");
        for (int what = 0; what < 2; what++) {
            AlpCommune x = new AlpCommune();
            x.weather(10, what, 7);
            x.weather(20, what, 9);
            int[] days = {0, 9, 10, 11, 19, 20, 21, 7199}, v = {-1, -1, 7, 7, 7, 9, 9, 9};
            for (int i = 0; i < days.length; i++) due(what + " of " + days[i], x.skyOf(days[i], what), v[i] < 0 ? WITHOUT[what] : v[i]);
            x.weather(20, what, 0);
            due("told 0 is told", x.skyOf(21, what), 0);
            due("the other alone", x.skyOf(21, 1 - what), WITHOUT[1 - what]);
        }
        for (int day : new int[] {0, 1, 58, 59, 60, 61, 119, 120, 179, 359, 360, 3599, 7139, 7140, 7198}) {
            AlpCommune x = new AlpCommune();
            x.weather(day, 1, 9);
            if (day > 0) due("FALL ahead of " + day, x.skyOf(day - 1, 1), 0);
            for (int behind : new int[] {0, 1, 2, 59, 60, 61, 62, 120, 121, 360}) {
                if (day + behind < 7200) due("FALL of " + (day + behind) + ", told on " + day, x.skyOf(day + behind, 1), 9);
            }
            due("FALL of the last day, told on " + day, x.skyOf(7199, 1), 9);
        }
    }

    static void t3_withoutAny5And0() {
        sentence("without any 5 and 0.");
        AlpCommune x = new AlpCommune();
        for (int what = 0; what < 2; what++) {
            x.weather(7199, what, 33);
            due("ahead of the first", x.skyOf(7198, what), WITHOUT[what]);
            due("on the first", x.skyOf(7199, what), 33);
            x.weather(0, what, 3);
            due("on day 0", x.skyOf(0, what), 3);
            due("behind day 0", x.skyOf(7198, what), 3);
        }
    }

    // ---- alps

    private static AlpCommune fourAlps() {
        AlpCommune x = Communes.withHouses(2);
        for (int alp = 0; alp < 4; alp++) x.alp(alp, 10 + alp);
        return x;
    }

    static void t3_alps0_3() {
        sentence("ALPS 0 .. 3, as they come");
        AlpCommune x = Communes.withHouses(1);
        for (int alp = 0; alp < 4; alp++) {
            due("none yet", x.alpOf(alp, 1), -5);
            due("alp " + alp, x.alp(0, 10 + alp), alp);
            due("AREA", x.alpOf(alp, 1), 10 + alp);
        }
        due("alp 4", x.alpOf(4, 1), -5);
        refused("a fifth", -4, BoundsDaysTest::fourAlps, y -> y.alp(0, 1));
    }

    static void t3_height0_3() {
        sentence("HEIGHT (0 .. 3)");
        for (int height = 0; height < 4; height++) {
            AlpCommune x = new AlpCommune();
            due("height " + height, x.alp(height, 1), 0);
            due("is", x.alpOf(0, 0), height);
        }
        for (int height : outside(0, 3)) refused("height " + height, -2, Communes::valley, x -> x.alp(height, 1));
    }

    static void t3_area1_99() {
        sentence("AREA (1 .. 99)");
        for (int area : new int[] {1, 99}) {
            AlpCommune x = new AlpCommune();
            due("area " + area, x.alp(0, area), 0);
            due("is", x.alpOf(0, 1), area);
        }
        for (int area : outside(1, 99)) refused("area " + area, -2, Communes::valley, x -> x.alp(0, area));
    }

    static void t3_grass0_10TimesArea() {
        sentence("GRASS (0 .. 10 times AREA; 0 at first)");
        AlpCommune x = Communes.free(99, 99);
        x.alp(0, 10);
        due("at first", x.alpOf(0, 2), 0);
        x.weather(0, 0, 20);
        for (int day = 1; day <= 7; day++) {
            x.days(1);
            due("behind " + day, x.alpOf(0, 2), Math.min(20 * day, 100));
        }
        x.drive(0, 0, 99);
        x.drive(1, 0, 99);
        x.days(1);
        due("33 are FED", x.alpOf(0, 2), 1);
        x.days(1);
        due("never below 0", x.alpOf(0, 2), 0);
    }

    static void t3_snow0AtFirst() {
        sentence("SNOW (0 at first)");
        AlpCommune x = new AlpCommune();
        x.alp(3, 9);
        due("SNOW", x.alpOf(0, 3), 0);
    }

    // ---- driving

    /**
     * House 0 has 20 cows, 40 PARTS, and hay for 10 cows as it was counted; it is a day, the season is from 150 till 270.
     */
    private static AlpCommune onDay(int day) {
        AlpCommune x = new AlpCommune();
        x.house(1, 1, 20, 1300);
        x.house(1, 1, 20, 1300);
        x.right(0, 1, 48);
        x.right(1, 1, 999);
        x.alp(0, 50);
        x.alp(1, 50);
        x.change(0, 3, 329);
        x.counts();
        x.change(0, 3, 99999);
        x.change(1, 3, 99999);
        live(x, day);
        return x;
    }

    private static AlpCommune onDayWith(int day, String... words) {
        AlpCommune x = onDay(day);
        for (String word : words) pass(x, word);
        return x;
    }

    static void t3_whyNotTheLeastThatHolds() {
        sentence("WHY not, the least that holds");
        String[] free = {"feet 0", "rate 0", "from 0", "till 999"}, bars = {"feet 99", "rate 99999", "from 999", "till 0"};
        // Which of 1, 2, 3, 4 hold, as bits.
        for (int holds = 0; holds < 16; holds++) {
            int n = (holds & 1) != 0 ? 21 : 20;
            String[] words = {(holds & 4) != 0 ? bars[0] : free[0], (holds & 8) != 0 ? bars[1] : free[1],
                (holds & 2) != 0 ? bars[2] : free[2], free[3]};
            int why = holds == 0 ? 0 : 1 + Integer.numberOfTrailingZeros(holds);
            if (why == 0) due("no bar", onDayWith(9, words).drive(0, 0, n), 20);
            else refused("bars " + holds, -20 - why, () -> onDayWith(9, words), x -> x.drive(0, 0, n));
            words[2] = free[2];
            if ((holds & 2) != 0) words[3] = bars[3];
            if (why > 0) due("bars by till " + holds, onDayWith(9, words).drive(0, 0, n), -20 - why);
        }
    }

    static void t3_1ItHasNotSoManyAtHome() {
        sentence("1 it has not so many at home");
        String[] free = {"feet 0", "rate 0", "from 0"};
        due("all", onDayWith(0, free).drive(0, 0, 20), 20);
        refused("one more", -21, () -> onDayWith(0, free), x -> x.drive(0, 0, 21));
        AlpCommune x = onDayWith(0, free);
        x.drive(0, 1, 5);
        due("those on another alp are not at home", x.drive(0, 0, 16), -21);
        due("all that are at home", x.drive(0, 0, 15), 15);
        due("none is", x.drive(0, 0, 1), -21);
        x.home(0, 1, 1);
        due("one is", x.drive(0, 0, 1), 16);
        x.change(0, 2, 22);
        due("two are", x.drive(0, 0, 3), -21);
        due("two are", x.drive(0, 0, 2), 18);
    }

    static void t3_2SeasonIsBelowFromOrNotBelowTill() {
        sentence("2 season is below from, or not below till");
        due("season 150", onDay(150).drive(0, 0, 1), 1);
        due("season 269", onDay(269).drive(0, 0, 1), 1);
        refused("season 149", -22, () -> onDay(149), x -> x.drive(0, 0, 1));
        refused("season 270", -22, () -> onDay(270), x -> x.drive(0, 0, 1));
        refused("season 149 of the second year", -22, () -> onDay(509), x -> x.drive(0, 0, 1));
        due("season 150 of the second year", onDay(510).drive(0, 0, 1), 1);
        due("season 0 from 0", onDayWith(360, "from 0").drive(0, 0, 1), 1);
        due("season 359 till 360", onDayWith(359, "till 360").drive(0, 0, 1), 1);
        due("season 359 till 359", onDayWith(359, "till 359").drive(0, 0, 1), -22);
        due("from behind till", onDayWith(200, "from 250", "till 240").drive(0, 0, 1), -22);
        due("from behind till", onDayWith(245, "from 250", "till 240").drive(0, 0, 1), -22);
        due("from and till one", onDayWith(250, "from 250", "till 250").drive(0, 0, 1), -22);
    }

    static void t3_thoseUpInAllWithTheseTimesFeet() {
        sentence("3 FEET: those UP in all, with these, times feet are more than PARTS of the COMMON 0 that it HOLDS");
        // 48 PARTS and feet 4: 12 cows.
        due("12", onDayWith(150, "rate 0").drive(0, 0, 12), 12);
        refused("13", -23, () -> onDayWith(150, "rate 0"), x -> x.drive(0, 0, 13));
        AlpCommune x = onDayWith(150, "rate 0");
        x.drive(0, 1, 5);
        due("5 and 8", x.drive(0, 0, 8), -23);
        due("5 and 7", x.drive(0, 0, 7), 7);
        pass(x, "feet 3");
        due("16 by feet 3, and one more", x.drive(0, 0, 5), -23);
        due("16 by feet 3", x.drive(0, 0, 4), 11);
        due("feet 48", onDayWith(150, "rate 0", "feet 48").drive(0, 0, 1), 1);
        due("feet 49", onDayWith(150, "rate 0", "feet 49").drive(0, 0, 1), -23);
        due("feet 48, two", onDayWith(150, "rate 0", "feet 48").drive(0, 0, 2), -23);
        due("feet 99999", onDayWith(150, "rate 0", "feet 99999").drive(0, 0, 20), -23);
        due("feet 0", onDayWith(150, "rate 0", "feet 0").drive(0, 0, 20), 20);
        AlpCommune none = onDayWith(150, "rate 0", "feet 0");
        none.leave(0, 1);
        due("feet 0, no PARTS", none.drive(0, 0, 20), 20);
        AlpCommune lent = onDayWith(150, "rate 0");
        lent.lend(0, 1, 152);
        due("what it HOLDS not", lent.drive(0, 0, 1), -23);
        lent.days(2);
        due("what it HOLDS", lent.drive(0, 0, 12), 12);
    }

    static void t3_areMoreThanItsHayAsLastCounted0AtFirstByRate() {
        sentence("4 WINTERED: those UP in all, with these, are more than its HAY as last COUNTED (0 at first) by rate");
        // 329 as counted by rate 30: 10 cows.
        due("10", onDay(150).drive(0, 0, 10), 10);
        refused("11", -24, () -> onDay(150), x -> x.drive(0, 0, 11));
        AlpCommune x = onDay(150);
        x.drive(0, 1, 4);
        due("4 and 7", x.drive(0, 0, 7), -24);
        due("4 and 6", x.drive(0, 0, 6), 6);
        x.counts();
        due("as last counted", x.drive(0, 0, 2), 8);
        AlpCommune never = Communes.withHouses(1);
        never.alp(0, 9);
        never.right(0, 1, 999);
        pass(never, "from 0");
        due("never counted", never.drive(0, 0, 1), -24);
        never.counts();
        due("counted", never.drive(0, 0, 1), 1);
    }

    static void t3_cutRate0NoBound() {
        sentence("by rate (cut; rate 0: no bound).");
        due("329 by 30, cut", onDayWith(150, "feet 0", "rate 30").drive(0, 0, 11), -24);
        due("329 by 29, cut", onDayWith(150, "feet 0", "rate 29").drive(0, 0, 11), 11);
        due("329 by 29, cut", onDayWith(150, "feet 0", "rate 29").drive(0, 0, 12), -24);
        due("329 by 329", onDayWith(150, "feet 0", "rate 329").drive(0, 0, 1), 1);
        due("329 by 330", onDayWith(150, "feet 0", "rate 330").drive(0, 0, 1), -24);
        due("329 by 99999", onDayWith(150, "feet 0", "rate 99999").drive(0, 0, 1), -24);
        due("rate 1", onDayWith(150, "feet 0", "rate 1").drive(0, 0, 20), 20);
        AlpCommune little = onDayWith(150, "feet 0", "rate 1");
        little.change(0, 3, 3);
        little.counts();
        due("3 by 1", little.drive(0, 0, 4), -24);
        due("3 by 1", little.drive(0, 0, 3), 3);
        due("rate 0", onDayWith(150, "feet 0", "rate 0").drive(0, 0, 20), 20);
        AlpCommune never = Communes.withHouses(1);
        never.alp(0, 9);
        pass(never, "from 0");
        pass(never, "feet 0");
        due("never counted, a rate", never.drive(0, 0, 1), -24);
        pass(never, "rate 0");
        due("never counted, rate 0", never.drive(0, 0, 10), 10);
    }

    static void t3_allByValuesNow() {
        sentence("All by VALUES now.");
        AlpCommune x = onDayWith(150, "rate 0", "feet 0 if season=151", "from 151", "till 153 unless cows=19");
        due("from 151", x.drive(0, 0, 1), -22);
        x.days(1);
        due("feet 0", x.drive(0, 0, 13), 13);
        x.days(1);
        due("feet 4", x.drive(0, 0, 1), -23);
        x.home(0, 0, 2);
        due("feet 4", x.drive(0, 0, 1), 12);
        x.days(1);
        x.home(0, 0, 1);
        due("till 153", x.drive(0, 0, 1), -22);
        x.change(0, 2, 19);
        due("till 270 again, with 19 cows", x.drive(0, 0, 1), 12);
        x.voids(3);
        x.change(0, 2, 20);
        x.home(0, 0, 1);
        due("till 270 again, as that word is VOID", x.drive(0, 0, 1), 12);
    }

    static void t3_theWordThatGaveFeet1NoneDidAndRate() {
        sentence("A DRIVE is in THE BOOK: DAY, HOUSE, ALP, n, the WORD that gave feet (-1: none did), and rate");
        AlpCommune x = onDay(150);
        x.drive(0, 1, 2);
        pass(x, "feet 3");
        pass(x, "rate 9");
        x.days(1);
        x.drive(1, 0, 20);
        int[][] drives = {{150, 0, 1, 2, -1, -1}, {151, 1, 0, 20, 0, 1}};
        for (int i = 0; i < 2; i++) for (int what = 0; what < 6; what++) due("book " + i + " " + what, x.book(i, what), drives[i][what]);
    }

    /** 201 drives of one cow, and the cow is at home. */
    private static AlpCommune drives(int n) {
        AlpCommune x = Communes.free(2);
        x.alp(0, 9);
        for (int i = 0; i < n; i++) {
            x.drive(0, 0, 1 + i % 2);
            x.home(0, 0, 1 + i % 2);
        }
        return x;
    }

    static void t3_theFirst200AreKept() {
        sentence("the first 200 are kept.");
        AlpCommune x = drives(199);
        due("the 199th", x.book(198, 3), 1);
        due("the 200th", x.book(199, 3), -5);
        x.drive(0, 0, 2);
        due("the 200th", x.book(199, 3), 2);
        x.home(0, 0, 2);
        due("the 201st is driven", x.drive(0, 0, 1), 1);
        due("count(6)", x.count(6), 201);
        due("it is not kept", x.book(200, 3), -5);
        due("the 200th stays", x.book(199, 3), 2);
        due("the first stays", x.book(0, 3), 1);
        due("VOID: of those that are kept", x.voids(0), 200);
        AlpCommune y = drives(200);
        pass(y, "rate 0");
        y.drive(0, 0, 1);
        due("VOID: not of those that are not", y.voids(4), 0);
    }

    // ---- calls

    static void p18_noneBad() {
        sentence("WARM (what 0), FALL (1) of a DAY is told: 1. NONE; BAD.");
        for (int day : outside(0, 7199)) refused("day " + day, -1, Communes::valley, x -> x.weather(day, 0, 1));
        for (int what : outside(0, 1)) refused("what " + what, -1, Communes::valley, x -> x.weather(0, what, 1));
        refused("NONE and BAD", -1, Communes::valley, x -> x.weather(7200, 0, 41));
        refused("NONE and BAD", -1, Communes::valley, x -> x.weather(0, 2, -41));
        refused("BAD", -2, Communes::valley, x -> x.weather(7199, 0, 41));
        refused("BAD", -2, Communes::valley, x -> x.weather(0, 1, -1));
        due("the last day", new AlpCommune().weather(7199, 1, 200), 1);
        due("the first day", new AlpCommune().weather(0, 0, -40), 1);
    }

    /** A sheet 1 of floats, and a day 20 to 29 with WARM 7 and FALL 7. */
    private static AlpCommune floats(int... quarters) {
        AlpCommune x = Communes.withHouses(1);
        x.sheet(0, 0, 5);
        x.sheet(1, 2, quarters.length);
        for (int i = 0; i < quarters.length; i++) x.cell(1, i, quarters[i]);
        for (int day = 20; day < 30; day++) Communes.sky(x, day, 7, 7);
        return x;
    }

    private static void read(int quarters, int what, int due) {
        AlpCommune x = floats(quarters);
        due(quarters + " quarters", x.sky(25, what, 1, 0, 1), due == 7 ? 0 : 1);
        due(quarters + " quarters are", x.skyOf(25, what), due);
        due("the day behind it", x.skyOf(26, what), 7);
    }

    static void p19_eachCutTowards0() {
        sentence("each cut towards 0; what is no number, or (cut) outside, is left (it stays as it was told, or not): how many were told.");
        int[] warm = {163, 160, 3, 1, 0, -1, -3, -4, -160, -163}, are = {40, 40, 0, 0, 0, 0, 0, -1, -40, -40};
        for (int i = 0; i < warm.length; i++) read(warm[i], 0, are[i]);
        for (int quarters : new int[] {164, -164, 1000, LEAST, MOST}) read(quarters, 0, 7);
        int[] fall = {803, 800, 4, 3, 0, -1, -3}, lie = {200, 200, 1, 0, 0, 0, 0};
        for (int i = 0; i < fall.length; i++) read(fall[i], 1, lie[i]);
        for (int quarters : new int[] {804, -4, -5, LEAST, MOST}) read(quarters, 1, 7);
    }

    static void p19_whatIsNoNumber() {
        sentence("what is no number, or (cut) outside, is left (it stays as it was told, or not)");
        AlpCommune x = floats(4, 8, 4000, 16);
        x.lose(1, 1);
        due("two of four", x.sky(28, 0, 1, 0, 4), 2);
        int[] warm = {1, 7, 7, 4};
        for (int i = 0; i < 4; i++) due("WARM of " + (28 + i), x.skyOf(28 + i, 0), warm[i]);
        x.weather(28, 0, 9);
        due("29 is told, and stays", x.skyOf(29, 0), 7);
        x.weather(29, 0, 11);
        due("30 was not told, and is as 29", x.skyOf(30, 0), 11);
        due("FALL is as it was", x.skyOf(31, 1), 7);
    }

    static void p19_noneNoSuchDayWhatSheet() {
        sentence("NONE: no such DAY, what, SHEET; BAD");
        for (int day : outside(0, 7199)) refused("day " + day, -1, Communes::valley, x -> x.sky(day, 0, 0, 0, 1));
        for (int what : outside(0, 1)) refused("what " + what, -1, Communes::valley, x -> x.sky(0, what, 0, 0, 1));
        for (int sheet : outside(0, 2)) refused("sheet " + sheet, -1, Communes::valley, x -> x.sky(0, 0, sheet, 0, 1));
        refused("NONE and BAD", -1, Communes::valley, x -> x.sky(7200, 0, 0, 0, -1));
        refused("NONE and n 0", -1, Communes::valley, x -> x.sky(0, 2, 0, 0, 0));
        refused("NONE and n 0", -1, Communes::valley, x -> x.sky(-1, 0, 0, 0, 0));
        refused("NONE and n 0", -1, Communes::valley, x -> x.sky(0, 0, 3, 0, 0));
        refused("NONE, -13", -1, Communes::valley, x -> x.sky(0, 2, 1, 0, 1));
        refused("NONE, -11", -1, Communes::valley, x -> x.sky(0, 2, 2, 0, 1));
        refused("NONE, -12", -1, Communes::valley, x -> x.sky(0, 2, 0, 4, 1));
        due("the last of each", floats(4, 4).sky(7199, 1, 1, 1, 1), 1);
    }

    static void p19_badNBelow0OrBeyondDay7199() {
        sentence("BAD: n below 0, or beyond DAY 7199");
        for (int n : new int[] {LEAST, -1, 7201, MOST}) refused("n " + n, -2, Communes::valley, x -> x.sky(0, 0, 0, 0, n));
        refused("two from 7199 on", -2, Communes::valley, x -> x.sky(7199, 0, 0, 0, 2));
        refused("MOST from 7199 on", -2, Communes::valley, x -> x.sky(7199, 0, 0, 0, MOST));
        AlpCommune x = floats(4, 8);
        due("one from 7199 on", x.sky(7199, 0, 1, 0, 1), 1);
        due("two from 7198 on", x.sky(7198, 0, 1, 0, 2), 2);
        due("three from 7198 on", x.sky(7198, 0, 1, 0, 3), -2);
        due("none from 7199 on", x.sky(7199, 0, 1, 0, 0), 0);
        due("7200 from 0 on", x.sky(0, 0, 1, 0, 7200), -12);
        due("7201 from 0 on", x.sky(0, 0, 1, 0, 7201), -2);
        refused("BAD and -13", -2, Communes::valley, y -> y.sky(0, 0, 1, 0, -1));
        refused("BAD and -11", -2, Communes::valley, y -> y.sky(7199, 0, 2, 0, 2));
        refused("BAD and -12", -2, Communes::valley, y -> y.sky(0, 0, 0, 9, -1));
    }

    static void p19_withN0NothingOfItIsAsked() {
        sentence("with n 0 nothing of it is asked: 0");
        refused("of another sort", 0, Communes::valley, x -> x.sky(0, 0, 1, 0, 0));
        refused("missing", 0, Communes::valley, x -> x.sky(0, 0, 2, 0, 0));
        for (int i : new int[] {LEAST, -1, 4, 5, MOST}) refused("item " + i, 0, Communes::valley, x -> x.sky(0, 0, 0, i, 0));
    }

    static void p19_13ItIsOfAnotherSort() {
        sentence("-13: it is of another sort; -11: it is missing; -12: it has not so many items.");
        for (int sort = 0; sort < 2; sort++) {
            int s = sort;
            refused("sort " + sort, -13, () -> sheet2(s, 3), x -> x.sky(0, 0, 2, 0, 1));
            refused("-13 and -12, sort " + sort, -13, () -> sheet2(s, 3), x -> x.sky(0, 0, 2, 3, 1));
        }
        due("floats", sheet2(2, 3).sky(0, 0, 2, 0, 3), 3);
        refused("missing", -11, Communes::valley, x -> x.sky(0, 0, 2, 0, 1));
        refused("-11, and no such items", -11, Communes::valley, x -> x.sky(0, 0, 2, -1, 99));
    }

    private static AlpCommune sheet2(int sort, int n) {
        AlpCommune x = Communes.valley();
        x.sheet(2, sort, n);
        return x;
    }

    static void p19_12ItHasNotSoManyItems() {
        sentence("-12: it has not so many items.");
        int[][] no = {{0, 5}, {1, 4}, {3, 2}, {4, 1}, {-1, 1}, {-1, 2}, {LEAST, 1}, {MOST, 1}, {MOST, 7000}, {0, 61}};
        for (int[] each : no) refused(each[1] + " from " + each[0] + " on", -12, Communes::valley, x -> x.sky(0, 0, 0, each[0], each[1]));
        int[][] has = {{0, 4}, {1, 3}, {3, 1}};
        for (int[] each : has) due(each[1] + " from " + each[0] + " on", floats(4, 8, 12, 16).sky(0, 0, 1, each[0], each[1]), each[1]);
        AlpCommune sixty = sheet2(2, 60);
        due("sixty", sixty.sky(0, 0, 2, 0, 60), 60);
        due("sixty-one", sixty.sky(0, 0, 2, 0, 61), -12);
        due("none has none", sheet2(2, 0).sky(0, 0, 2, 0, 1), -12);
    }

    static void p20_1000NoneSuch() {
        sentence("WARM, FALL of a DAY as they count. -1000: none such.");
        AlpCommune x = new AlpCommune();
        for (int day : outside(0, 7199)) due("day " + day, x.skyOf(day, 0), -1000);
        for (int what : outside(0, 1)) due("what " + what, x.skyOf(0, what), -1000);
        due("both", x.skyOf(7200, 2), -1000);
        due("the first", x.skyOf(0, 0), 5);
        due("the last", x.skyOf(7199, 1), 0);
    }

    static void p21_badFull() {
        sentence("An ALP: its number. BAD; FULL.");
        refused("BAD and FULL", -2, BoundsDaysTest::fourAlps, x -> x.alp(4, 1));
        refused("BAD and FULL", -2, BoundsDaysTest::fourAlps, x -> x.alp(0, 100));
        refused("FULL", -4, BoundsDaysTest::fourAlps, x -> x.alp(3, 99));
        AlpCommune three = Communes.withHouses(1);
        for (int alp = 0; alp < 3; alp++) three.alp(0, 1);
        due("the fourth", three.alp(3, 99), 3);
        due("AREA", three.alpOf(3, 1), 99);
    }

    static void p22_5AndTheHouse() {
        sentence("4 COWS that are UP there; 5 and the HOUSE: its COWS there. -5: none such.");
        AlpCommune x = Communes.valley();
        int[] first = {4, 4, 0, 0}, second = {5, 3, 2, 0};
        for (int i = 0; i < 4; i++) {
            due("of alp 0, " + (4 + i), x.alpOf(0, 4 + i), first[i]);
            due("of alp 1, " + (4 + i), x.alpOf(1, 4 + i), second[i]);
        }
        for (int what : outside(0, 7)) due("what " + what, x.alpOf(0, what), -5);
        for (int alp : outside(0, 1)) due("alp " + alp, x.alpOf(alp, 0), -5);
        due("both", x.alpOf(2, 8), -5);
        AlpCommune ten = Communes.withHouses(10);
        ten.alp(0, 9);
        due("the tenth house", ten.alpOf(0, 14), 0);
        due("an eleventh", ten.alpOf(0, 15), -5);
    }

    /** House 0 has 99 cows, of which some are up on alp 0; everything is free. */
    private static AlpCommune up(int n) {
        AlpCommune x = Communes.free(99, 5);
        x.alp(0, 9);
        x.alp(0, 9);
        if (n > 0) x.drive(0, 0, n);
        return x;
    }

    static void p23_n1_99() {
        sentence("n (1 .. 99) COWS of a HOUSE are DRIVEN up an ALP: how many it has there.");
        due("1", up(0).drive(0, 0, 1), 1);
        due("99", up(0).drive(0, 0, 99), 99);
        due("98 and 1", up(98).drive(0, 0, 1), 99);
        due("98 and 1, another alp", up(98).drive(0, 1, 1), 1);
        for (int n : outside(1, 99)) refused("n " + n, -2, () -> up(3), x -> x.drive(0, 0, n));
    }

    static void p23_noneBad20LessWhy() {
        sentence("NONE; BAD; -20 less WHY.");
        for (int h : outside(0, 2)) refused("house " + h, -1, Communes::valley, x -> x.drive(h, 0, 1));
        for (int alp : outside(0, 1)) refused("alp " + alp, -1, Communes::valley, x -> x.drive(0, alp, 1));
        refused("NONE and BAD", -1, Communes::valley, x -> x.drive(3, 0, 0));
        refused("NONE and BAD", -1, Communes::valley, x -> x.drive(0, 2, 100));
        refused("NONE and WHY 1", -1, Communes::valley, x -> x.drive(2, 2, 5));
        refused("BAD and WHY 1", -2, Communes::valley, x -> x.drive(2, 0, 100));
        refused("BAD and WHY 2", -2, () -> onDay(149), x -> x.drive(0, 0, 0));
        refused("WHY 1", -21, Communes::valley, x -> x.drive(2, 0, 1));
        refused("WHY 2", -22, () -> onDay(149), x -> x.drive(0, 0, 1));
        refused("WHY 3", -23, () -> onDayWith(150, "rate 0"), x -> x.drive(0, 0, 13));
        refused("WHY 4", -24, () -> onDay(150), x -> x.drive(0, 0, 11));
    }

    static void p24_badItHasNotSoManyThere() {
        sentence("n (1 .. 99) COWS come home from an ALP: how many stay there. NONE; BAD: it has not so many there.");
        due("1", up(5).home(0, 0, 1), 4);
        due("all", up(5).home(0, 0, 5), 0);
        due("99", up(99).home(0, 0, 99), 0);
        for (int n : new int[] {LEAST, -1, 0, 6, 99, 100, MOST}) refused("n " + n + " of 5", -2, () -> up(5), x -> x.home(0, 0, n));
        refused("none there", -2, () -> up(5), x -> x.home(0, 1, 1));
        refused("none of that house", -2, () -> up(5), x -> x.home(1, 0, 1));
        refused("100 of 99", -2, () -> up(99), x -> x.home(0, 0, 100));
        for (int h : outside(0, 1)) refused("house " + h, -1, () -> up(5), x -> x.home(h, 0, 1));
        for (int alp : outside(0, 1)) refused("alp " + alp, -1, () -> up(5), x -> x.home(0, alp, 1));
        refused("NONE and BAD", -1, () -> up(5), x -> x.home(2, 0, 6));
        refused("NONE and BAD", -1, () -> up(5), x -> x.home(0, 2, 0));
        AlpCommune late = onDay(269);
        late.drive(0, 0, 3);
        late.days(1);
        due("home at any season", late.home(0, 0, 3), 0);
    }

    static void p25_5NoneSuch() {
        sentence("4 the WORD that gave feet (-1), 5 rate (-1). -5: none such.");
        AlpCommune x = Communes.valley();
        for (int i : outside(0, 2)) due("drive " + i, x.book(i, 0), -5);
        for (int what : outside(0, 5)) due("what " + what, x.book(0, what), -5);
        due("both", x.book(3, 6), -5);
        due("the last", x.book(2, 5), -1);
        due("feet", x.book(2, 4), 1);
        due("rate", x.book(1, 5), 2);
        due("none at all", new AlpCommune().book(0, 0), -5);
    }

    static void p26_n1_120() {
        sentence("n (1 .. 120) DAYS are lived: DAY.");
        due("1", new AlpCommune().days(1), 1);
        due("120", new AlpCommune().days(120), 120);
        for (int n : outside(1, 120)) refused("n " + n, -2, Communes::valley, x -> x.days(n));
    }

    private static AlpCommune onDay7100() {
        AlpCommune x = Communes.withHouses(1);
        live(x, 7100);
        return x;
    }

    static void p26_badAlsoBeyond7199() {
        sentence("BAD: also beyond 7199.");
        refused("100 from 7100 on", -2, BoundsDaysTest::onDay7100, x -> x.days(100));
        refused("120 from 7100 on", -2, BoundsDaysTest::onDay7100, x -> x.days(120));
        due("99 from 7100 on", onDay7100().days(99), 7199);
        for (int n : new int[] {1, 2, 120, 121, MOST}) refused(n + " from 7199 on", -2, BoundsDaysTest::lastDay, x -> x.days(n));
    }
}
