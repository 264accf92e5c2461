/** Boundary cases of "==== 5" and promises 31 to 40: cheese, wood, water, turns, works; a test for each sentence. */
public final class BoundsGoodsTest extends Check {
    public static void main(String[] args) throws IllegalAccessException {
        runSentences(BoundsGoodsTest.class);
    }

    // ---- milk and cheese

    /** Houses of 99 cows with free driving, and an alp with 990 GRASS, on day 10. */
    private static AlpCommune meadow(int houses) {
        AlpCommune x = Communes.free(99);
        for (int h = 1; h < houses; h++) x.house(1, 1, 99, 99999);
        x.alp(0, 99);
        x.weather(0, 0, 20);
        x.days(10);
        return x;
    }

    /** A day with so many cows up of each house, which is measured; 8 SUM for each. */
    private static void milk(AlpCommune x, int... cows) {
        for (int h = 0; h < cows.length; h++) if (cows[h] > 0) x.drive(h, 0, cows[h]);
        x.days(1);
        x.measure();
        for (int h = 0; h < cows.length; h++) if (cows[h] > 0) x.home(h, 0, cows[h]);
    }

    private static AlpCommune milked(int... cows) {
        AlpCommune x = meadow(cows.length);
        milk(x, cows);
        return x;
    }

    private static void parted(String what, AlpCommune x, int[] wheels, int[] rests) {
        int all = 0;
        for (int h = 0; h < wheels.length; h++) {
            due(what + ", WHEELS of " + h, x.told(h, 10), wheels[h]);
            due(what + ", REST of " + h, x.rest(h), rests[h]);
            due(what + ", SUM of " + h, x.told(h, 8), 0);
            all += wheels[h];
        }
        due(what + ", count(10)", x.count(10), all);
    }

    private static int[] row(int... v) {
        return v;
    }

    static void t5_all0AtFirst() {
        sentence("MEASURED: on a DAY that was lived last, each HOUSE's MILK of it is added to its SUM (all 0 at first).");
        AlpCommune x = meadow(2);
        x.drive(0, 0, 3);
        x.drive(1, 0, 1);
        due("at first", x.told(0, 8), 0);
        x.days(2);
        due("not MEASURED", x.told(0, 8), 0);
        due("MEASURED: the day lived last", x.measure(), 32);
        due("SUM of 0", x.told(0, 8), 24);
        due("SUM of 1", x.told(1, 8), 8);
        x.days(1);
        x.measure();
        due("added", x.told(0, 8), 48);
    }

    static void t5_nTimesSumTimes10000ByAllSumsCut() {
        sentence("each HOUSE has n times SUM times 10000 by all SUMS, cut, and its REST (ten thousandths of a WHEEL; 0 at first) more");
        AlpCommune x = milked(1, 1, 1);
        due("REST at first", x.rest(0), 0);
        due("one WHEEL", x.cheese(1), 1);
        parted("3333 each", x, row(1, 0, 0), row(-6667, 3333, 3333));
        AlpCommune y = milked(2, 1);
        due("two WHEELS", y.cheese(2), 2);
        parted("13333 and 6666", y, row(1, 1), row(3333, -3334));
        AlpCommune z = milked(1, 6);
        due("five", z.cheese(5), 5);
        parted("7142 and 42857", z, row(1, 4), row(-2858, 2857));
    }

    static void t5_oneWheelForEachWhole10000() {
        sentence("it gets one WHEEL for each whole 10000 of that");
        AlpCommune x = milked(1, 1);
        due("four", x.cheese(4), 4);
        parted("20000 each", x, row(2, 2), row(0, 0));
        AlpCommune y = milked(3, 1);
        due("two", y.cheese(2), 2);
        parted("15000 and 5000: the least of several", y, row(2, 0), row(-5000, 5000));
        milk(y, 1, 1);
        due("one", y.cheese(1), 1);
        parted("0 and 10000", y, row(2, 1), row(0, 0));
        AlpCommune z = milked(1, 2);
        z.cheese(1);
        parted("3333 and 6666", z, row(0, 1), row(3333, -3334));
        milk(z, 2, 1);
        z.cheese(1);
        parted("9999 and -1", z, row(1, 1), row(-1, -1));
    }

    static void t5_noneIfItIsBelow0() {
        sentence("(none, if it is below 0), what is left is its REST.");
        // REST -3334 of 0, 3333 of 1; then one of 1's alone: -3334 and 13333.
        AlpCommune x = milked(2, 1);
        x.cheese(1);
        parted("6666 and 3333", x, row(1, 0), row(-3334, 3333));
        milk(x, 0, 1);
        due("one", x.cheese(1), 1);
        parted("below 0: none", x, row(1, 1), row(-3334, 3333));
        AlpCommune y = milked(1, 1);
        y.cheese(1);
        parted("5000 each", y, row(1, 0), row(-5000, 5000));
        milk(y, 1, 0);
        due("three to 0", y.cheese(3), 3);
        parted("25000 and 5000", y, row(4, 0), row(-5000, 5000));
    }

    static void t5_asLongAsFewerThanNWereGivenOneMoreGoes() {
        sentence("As long as fewer than n were given one more goes to the HOUSE with the greatest REST (as it is then), of several the least");
        AlpCommune x = milked(3, 3, 2, 2, 2);
        due("four", x.cheese(4), 4);
        // 10000, 10000, 6666, 6666, 6666: two are given, two more go to 2 and 3.
        parted("two more", x, row(1, 1, 1, 1, 0), row(0, 0, -3334, -3334, 6666));
        AlpCommune y = milked(1, 1, 1, 1, 1, 1, 1, 1, 1, 1);
        due("nine", y.cheese(9), 9);
        parted("to each but the last", y, row(1, 1, 1, 1, 1, 1, 1, 1, 1, 0), row(-1000, -1000, -1000, -1000, -1000, -1000, -1000, -1000, -1000, 9000));
        AlpCommune z = milked(99, 98, 98);
        due("two", z.cheese(2), 2);
        parted("the greatest first, then the least of several", z, row(1, 1, 0), row(-3289, -3356, 6644));
        AlpCommune one = milked(5);
        due("all to one", one.cheese(3), 3);
        parted("one house", one, row(3), row(0));
    }

    static void t5_asLongAsMoreWereOneGoes() {
        sentence("as long as more were, one goes from the HOUSE with the least REST of those that got one now, of several the least; its REST is 10000 less, more.");
        // 4000 each: 0 and 1 get one. Then, by 0, 0, 6, 7, 7 of 20: 10000, 11000, 11000 make three of two.
        AlpCommune x = milked(1, 1, 1, 1, 1);
        x.cheese(2);
        parted("4000 each", x, row(1, 1, 0, 0, 0), row(-6000, -6000, 4000, 4000, 4000));
        milk(x, 0, 0, 6, 7, 7);
        due("two", x.cheese(2), 2);
        parted("one goes from 2", x, row(1, 1, 0, 1, 1), row(-6000, -6000, 10000, 1000, 1000));
        milk(x, 1, 0, 0, 0, 0);
        due("none: the one of 2 goes again", x.cheese(0), 0);
        parted("none", x, row(1, 1, 0, 1, 1), row(-6000, -6000, 10000, 1000, 1000));
        // Of several with the least the first one's goes: 10666 each of 2, 3, 4.
        AlpCommune y = milked(1, 1, 1, 1, 1);
        y.cheese(2);
        milk(y, 0, 0, 6, 6, 6);
        due("two", y.cheese(2), 2);
        parted("one of three goes from the least", y, row(1, 1, 0, 1, 1), row(-6000, -6000, 10666, 666, 666));
        AlpCommune z = milked(10, 10, 10, 11, 11);
        z.cheese(2);
        parted("4230 of the last two", z, row(0, 0, 0, 1, 1), row(3846, 3846, 3846, -5770, -5770));
        milk(z, 6, 6, 6, 0, 0);
        due("two", z.cheese(2), 2);
        parted("one of three goes from house 0", z, row(0, 1, 1, 1, 1), row(10512, 512, 512, -5770, -5770));
    }

    /** Five houses that got one have a REST of -5000, five have 5000; then others have milk. */
    static void t5_ofThoseThatGotOneNow() {
        sentence("the HOUSE with the least REST of those that got one now");
        AlpCommune x = milked(1, 1, 1, 1, 1, 1, 1, 1, 1, 1);
        x.cheese(5);
        parted("5000 each", x, row(1, 1, 1, 1, 1, 0, 0, 0, 0, 0),
            row(-5000, -5000, -5000, -5000, -5000, 5000, 5000, 5000, 5000, 5000));
        // Two, 5000 each more for 5, 6, 7, 8: they get four, and two go again, from 5 and 6.
        milk(x, 0, 0, 0, 0, 0, 1, 1, 1, 1, 0);
        due("two", x.cheese(2), 2);
        parted("two go", x, row(1, 1, 1, 1, 1, 0, 0, 1, 1, 0),
            row(-5000, -5000, -5000, -5000, -5000, 10000, 10000, 0, 0, 5000));
        // Two, 5000 each more for 0, 1, 2, 3, which have 0 then; 5 and 6 get one each by their REST: as many as are parted.
        milk(x, 1, 1, 1, 1, 0, 0, 0, 0, 0, 0);
        due("two", x.cheese(2), 2);
        parted("none goes", x, row(1, 1, 1, 1, 1, 1, 1, 1, 1, 0), row(0, 0, 0, 0, -5000, 0, 0, 0, 0, 5000));
        // One, 10000 more for 4, which has 5000 then, as 9 has: it goes to the least of both.
        milk(x, 0, 0, 0, 0, 1, 0, 0, 0, 0, 0);
        due("one", x.cheese(1), 1);
        parted("one more, to 4", x, row(1, 1, 1, 1, 2, 1, 1, 1, 1, 0), row(0, 0, 0, 0, -5000, 0, 0, 0, 0, 5000));
    }

    static void t5_thenSumsAre0() {
        sentence("Then SUMS are 0.");
        AlpCommune x = milked(2, 1);
        due("SUM", x.told(0, 8), 16);
        due("none are parted", x.cheese(0), 0);
        parted("none", x, row(0, 0), row(0, 0));
        due("without any SUM", x.cheese(5), 0);
        milk(x, 1, 0);
        due("of the milk since alone", x.cheese(5), 5);
        parted("since", x, row(5, 0), row(0, 0));
    }

    static void t5_withoutAnySumNobodyGetsAny() {
        sentence("(Without any SUM nobody gets any, RESTS stay.)");
        AlpCommune x = milked(2, 1);
        x.cheese(1);
        due("nobody", x.cheese(9999), 0);
        parted("RESTS stay", x, row(1, 0), row(-3334, 3333));
        due("no house", new AlpCommune().cheese(9), 0);
        due("a house without milk", Communes.withHouses(1).cheese(9), 0);
    }

    static void p31_stateNoneWasLivedOrItIsMeasured() {
        sentence("The DAY lived last is MEASURED: all its MILK. STATE: none was lived, or it is MEASURED.");
        refused("none was lived", -3, () -> Communes.withHouses(2), AlpCommune::measure);
        AlpCommune x = Communes.valley();
        due("all its MILK", x.measure(), 72);
        refused("it is MEASURED", -3, BoundsGoodsTest::measured, AlpCommune::measure);
        x.days(1);
        due("another day", x.measure() >= 0 ? 1 : 0, 1);
        AlpCommune none = new AlpCommune();
        none.days(1);
        due("no MILK", none.measure(), 0);
        due("it is MEASURED", none.measure(), -3);
    }

    private static AlpCommune measured() {
        AlpCommune x = Communes.valley();
        x.measure();
        return x;
    }

    static void p32_nWheels0_9999() {
        sentence("n WHEELS (0 .. 9999) are parted: how many were given. BAD.");
        due("0", measured().cheese(0), 0);
        due("1", measured().cheese(1), 1);
        due("9999", measured().cheese(9999), 9999);
        for (int n : outside(0, 9999)) {
            refused("n " + n, -2, BoundsGoodsTest::measured, x -> x.cheese(n));
            refused("without any SUM, n " + n, -2, () -> Communes.withHouses(1), x -> x.cheese(n));
        }
        refused("without any SUM", 0, () -> Communes.withHouses(2), x -> x.cheese(9999));
    }

    static void p33_1000000NoneSuch() {
        sentence("REST of a HOUSE. -1000000: none such.");
        AlpCommune x = Communes.valley();
        for (int h : outside(0, 2)) due("house " + h, x.rest(h), -1000000);
        due("the last house", x.rest(2), 0);
        due("the first house", x.rest(0), -1112);
        due("no house", new AlpCommune().rest(0), -1000000);
    }

    // ---- wood

    private static AlpCommune wood(int age, int... hearths) {
        AlpCommune x = new AlpCommune();
        for (int each : hearths) x.house(each, 1, 0, 0);
        x.slope(age);
        return x;
    }

    private static void logs(String what, AlpCommune x, int... logs) {
        for (int h = 0; h < logs.length; h++) due(what + ", LOGS of " + h, x.told(h, 11), logs[h]);
    }

    static void t5_ageBy4CutLogs() {
        sentence("WOOD: a SLOPE is FELLED: AGE by 4 (cut) LOGS");
        int[] ages = {0, 3, 4, 7, 8, 399, 400}, logs = {0, 0, 1, 1, 2, 99, 100};
        for (int i = 0; i < ages.length; i++) {
            AlpCommune x = wood(ages[i], 9);
            due("LOGS of AGE " + ages[i], x.fell(0, 0), logs[i]);
            due("AGE then", x.slopeOf(0, 0), 0);
            due("count(11)", x.count(11), logs[i]);
        }
    }

    static void t5_lotTimesItsHearthsAtMost() {
        sentence("each HOUSE gets lot times its HEARTHS at most");
        AlpCommune x = wood(400, 1, 9, 2);
        due("LOGS", x.fell(0, 0), 100);
        logs("lot 3", x, 3, 27, 6);
        AlpCommune y = wood(400, 1, 9, 2);
        pass(y, "lot 99999 if hearths=9");
        y.fell(0, 0);
        logs("a great lot", y, 3, 97, 0);
        AlpCommune z = wood(400, 1, 9, 2);
        pass(z, "lot 0 unless hearths=2");
        z.fell(0, 0);
        logs("lot 0", z, 0, 0, 6);
    }

    static void t5_asFarAsTheyLast() {
        sentence("by a row that begins with the HOUSE told and goes round, as far as they last");
        int[][] of9 = {{3, 6, 0}, {0, 6, 3}, {3, 0, 6}};
        for (int first = 0; first < 3; first++) {
            AlpCommune x = wood(36, 1, 2, 3);
            due("LOGS", x.fell(0, first), 9);
            if (first == 2) logs("from 2", x, 0, 0, 9);
            else logs("from " + first, x, of9[first]);
        }
        AlpCommune exactly = wood(72, 1, 2, 3);
        exactly.fell(0, 1);
        logs("18, as many as they get", exactly, 3, 6, 9);
        AlpCommune fewer = wood(68, 1, 2, 3);
        fewer.fell(0, 1);
        logs("17, from 1", fewer, 2, 6, 9);
        AlpCommune few = wood(60, 1, 2, 3);
        few.fell(0, 1);
        logs("15, from 1", few, 0, 6, 9);
        AlpCommune two = wood(56, 1, 2, 3);
        two.fell(0, 2);
        logs("14, from 2", two, 3, 2, 9);
    }

    /** Houses that owe 10, 20, 30 coins for works, and wood. */
    private static AlpCommune owing(int age) {
        AlpCommune x = new AlpCommune();
        for (int h = 1; h <= 3; h++) x.house(1, h, 0, 0);
        x.year();
        x.slope(age);
        return x;
    }

    private static void debts(String what, AlpCommune x, int... debts) {
        for (int h = 0; h < debts.length; h++) due(what + ", DEBT of " + h, x.told(h, 4), debts[h]);
    }

    static void t5_1CoinEachOffTheDebtsFromHouse0On() {
        sentence("AGE is 0 then; what is left is sold: 1 coin each off the DEBTS, from HOUSE 0 on.");
        debts("at first", owing(0), 10, 20, 30);
        // Each gets 3 at most: 9 of all LOGS; the row may begin with any, the sale begins with 0.
        int[] logs = {9, 10, 19, 20, 39, 40, 69, 70, 100};
        int[][] left = {{10, 20, 30}, {9, 20, 30}, {0, 20, 30}, {0, 19, 30}, {0, 0, 30}, {0, 0, 29}, {0, 0, 0}, {0, 0, 0}, {0, 0, 0}};
        for (int i = 0; i < logs.length; i++) {
            AlpCommune x = owing(4 * logs[i]);
            due("LOGS", x.fell(0, i % 3), logs[i]);
            debts("of " + logs[i], x, left[i]);
            due("AGE", x.slopeOf(0, 0), 0);
        }
    }

    /** Over a SOFT LAYER there lies so much; WORKS or not; AGE 400. */
    private static AlpCommune snowOver(int over, boolean works) {
        AlpCommune x = wood(400, 1, 1);
        x.works(0, works);
        Communes.live(x, row(0, 9), row(-9, over));
        return x;
    }

    static void t5_wouldBe100OrMore() {
        sentence("Barred if RISK of it, with AGE 0, would be 100 or more.");
        due("39 by 40", snowOver(39, false).fell(0, 0), 100);
        refused("40 by 40", -3, () -> snowOver(40, false), x -> x.fell(0, 0));
        refused("119 by 40", -3, () -> snowOver(119, false), x -> x.fell(0, 0));
        due("69 by 70", snowOver(69, true).fell(0, 0), 100);
        refused("70 by 70", -3, () -> snowOver(70, true), x -> x.fell(0, 0));
        AlpCommune felled = wood(0, 1);
        felled.works(0, true);
        Communes.live(felled, row(0, 9), row(-9, 40));
        felled.works(0, false);
        due("barred with AGE 0, too", felled.fell(0, 0), -3);
    }

    static void p34_noneStateItIsBarred() {
        sentence("A SLOPE is FELLED, the row begins with a HOUSE: LOGS. NONE; STATE: it is barred.");
        for (int s : outside(0, 0)) refused("slope " + s, -1, () -> snowOver(39, false), x -> x.fell(s, 0));
        for (int h : outside(0, 1)) refused("house " + h, -1, () -> snowOver(39, false), x -> x.fell(0, h));
        refused("NONE and STATE", -1, () -> snowOver(40, false), x -> x.fell(0, 2));
        refused("both NONE", -1, () -> snowOver(40, false), x -> x.fell(1, 2));
        refused("STATE", -3, () -> snowOver(40, false), x -> x.fell(0, 1));
        AlpCommune none = new AlpCommune();
        none.slope(40);
        due("no house", none.fell(0, 0), -1);
    }

    // ---- water

    static void t5_asManyHoursAsTheCommon2HasParts() {
        sentence("WATER: a cycle of as many hours as the COMMON 2 has PARTS: RIGHTS of it by numbers, each so many hours as PARTS.");
        AlpCommune x = Communes.withHouses(2);
        x.right(0, 1, 5);
        x.right(0, 3, 2);
        x.right(1, 2, 5);
        x.right(1, 3, 3);
        x.right(0, 3, 1);
        int[] of = {1, 1, 3, 3, 3, 4};
        for (int h = 0; h < 18; h++) due("hour " + h, x.hour(h), of[h % 6]);
        x.join(4, 1);
        int[] joined = {1, 1, 1, 3, 3, 3};
        for (int h = 0; h < 12; h++) due("joined, hour " + h, x.hour(h), joined[h % 6]);
        AlpCommune most = Communes.withHouses(1);
        for (int r = 0; r < 50; r++) most.right(0, 3, 999);
        due("the last hour of the longest cycle", most.hour(49949), 49);
        due("the first anew", most.hour(49950), 0);
        due("the last of right 0", most.hour(998), 0);
        due("the first of right 1", most.hour(999), 1);
        due("the greatest hour", most.hour(MOST), MOST % 49950 / 999);
    }

    /** House 0 has the hours, and the channel's houses with a leak ahead of each. */
    private static AlpCommune channelOf(int[]... places) {
        AlpCommune x = Communes.withHouses(3);
        x.right(0, 3, 1);
        for (int i = 0; i < places.length; i++) x.channel(i, places[i][0], places[i][1]);
        return x;
    }

    static void t5_times100LessLeakBy100CutEach() {
        sentence("what came to the one ahead of it (FLOW at the head) times (100 less LEAK) by 100, cut each.");
        due("LEAK 0", channelOf(row(0, 0)).gets(0, 0, 10000), 10000);
        due("LEAK 100", channelOf(row(0, 100)).gets(0, 0, 10000), 0);
        due("LEAK 1 of 99", channelOf(row(0, 1)).gets(0, 0, 99), 98);
        due("LEAK 1 of 100", channelOf(row(0, 1)).gets(0, 0, 100), 99);
        due("LEAK 99 of 99", channelOf(row(0, 99)).gets(0, 0, 99), 0);
        due("LEAK 99 of 199", channelOf(row(0, 99)).gets(0, 0, 199), 1);
        due("LEAK 50 of 3 and then 50", channelOf(row(1, 50), row(0, 50)).gets(0, 0, 3), 0);
        due("LEAK 50 of 7 and then 0, 34", channelOf(row(1, 50), row(2, 0), row(0, 34)).gets(0, 0, 7), 1);
        due("of 0", channelOf(row(0, 0)).gets(0, 0, 0), 0);
    }

    static void t5_ifItHoldsTheRightOfThatHour() {
        sentence("What a HOUSE gets in an hour: what comes to it, if it HOLDS the RIGHT of that hour; else nothing.");
        AlpCommune x = channelOf(row(0, 0), row(1, 0));
        due("it HOLDS it", x.gets(0, 0, 7), 7);
        due("it doesn't", x.gets(1, 0, 7), 0);
        x.lend(0, 1, 2);
        due("LENT", x.gets(0, 0, 7), 0);
        due("LENT to it", x.gets(1, 0, 7), 7);
        x.days(2);
        due("LENT no more", x.gets(0, 0, 7), 7);
        x.leave(0, 1);
        due("left", x.gets(1, 0, 7), 7);
        x.right(0, 3, 1);
        due("another hour", x.gets(0, 1, 7), 7);
        due("round", x.gets(1, 2, 7), 7);
        due("round", x.gets(1, 1, 7), 0);
    }

    private static AlpCommune longChannel(int places) {
        AlpCommune x = Communes.withHouses(3);
        x.right(0, 3, 2);
        x.right(2, 3, 1);
        for (int i = 0; i < places; i++) x.channel(i, 1 + i % 2, i);
        return x;
    }

    static void p35_i0HowManyThereAreANewOne() {
        sentence("The CHANNEL's i-th HOUSE (i 0 .. how many there are: a new one) with a LEAK (0 .. 100) ahead of it: how many it has.");
        AlpCommune x = longChannel(0);
        due("i 1 of none", x.channel(1, 0, 0), -1);
        for (int i = 0; i < 10; i++) due("a new one " + i, x.channel(i, 0, 0), i + 1);
        for (int i = 0; i < 10; i++) due("told again " + i, x.channel(i, 1, 0), 10);
        for (int i : new int[] {LEAST, -1, 4, 5, 10, 11, MOST}) refused("i " + i + " of 3", -1, () -> longChannel(3), y -> y.channel(i, 0, 0));
        due("i 3 of 3", longChannel(3).channel(3, 0, 0), 4);
        due("i 2 of 3", longChannel(3).channel(2, 0, 0), 3);
        AlpCommune anew = longChannel(3);
        anew.channel(1, 0, 50);
        due("that one is another now", anew.gets(0, 0, 100), 50);
        due("the one behind it", anew.gets(2, 2, 100), 0);
    }

    static void p35_aLeak0_100() {
        sentence("with a LEAK (0 .. 100) ahead of it");
        for (int leak : new int[] {0, 100}) {
            AlpCommune x = longChannel(0);
            due("leak " + leak, x.channel(0, 0, leak), 1);
            due("gets", x.gets(0, 0, 100), 100 - leak);
        }
        for (int leak : outside(0, 100)) refused("leak " + leak, -2, () -> longChannel(3), x -> x.channel(1, 0, leak));
        for (int leak : outside(0, 100)) refused("a new one, leak " + leak, -2, () -> longChannel(3), x -> x.channel(3, 0, leak));
    }

    static void p35_noneIHouseBadFull10() {
        sentence("NONE: i, house; BAD; FULL: 10.");
        for (int h : outside(0, 2)) refused("house " + h, -1, () -> longChannel(3), x -> x.channel(3, h, 0));
        refused("NONE by i, and BAD", -1, () -> longChannel(3), x -> x.channel(4, 0, 101));
        refused("NONE by house, and BAD", -1, () -> longChannel(3), x -> x.channel(3, 3, -1));
        refused("NONE by house, and FULL", -1, () -> longChannel(10), x -> x.channel(10, 3, 0));
        refused("NONE by i", -1, () -> longChannel(10), x -> x.channel(11, 0, 0));
        refused("BAD and FULL", -2, () -> longChannel(10), x -> x.channel(10, 0, 101));
        refused("FULL", -4, () -> longChannel(10), x -> x.channel(10, 0, 0));
        due("the tenth", longChannel(9).channel(9, 0, 0), 10);
        due("the tenth told again", longChannel(10).channel(9, 0, 0), 10);
    }

    static void p36_0AndMoreModuloTheCycle() {
        sentence("Which RIGHT has an hour (0 and more, modulo the cycle). NONE: the cycle has no hours; BAD.");
        AlpCommune x = longChannel(0);
        int[] of = {0, 0, 1};
        for (int h = 0; h < 9; h++) due("hour " + h, x.hour(h), of[h % 3]);
        due("the greatest", x.hour(MOST), of[MOST % 3]);
        due("BAD", x.hour(-1), -2);
        due("BAD", x.hour(LEAST), -2);
        AlpCommune none = Communes.withHouses(1);
        none.right(0, 1, 5);
        due("no hours", none.hour(0), -1);
        due("no hours", none.hour(MOST), -1);
        due("NONE and BAD", none.hour(-1), -1);
        due("no rights", new AlpCommune().hour(LEAST), -1);
    }

    static void p37_flow0_10000() {
        sentence("What a HOUSE gets in an hour, with FLOW (0 .. 10000) at the head");
        AlpCommune x = channelOf(row(0, 0));
        due("0", x.gets(0, 0, 0), 0);
        due("1", x.gets(0, 0, 1), 1);
        due("10000", x.gets(0, 0, 10000), 10000);
        for (int flow : outside(0, 10000)) due("flow " + flow, x.gets(0, 0, flow), -5);
    }

    static void p37_0AlsoIfTheCycleHasNoHours() {
        sentence("(0 also if the cycle has no hours, or it is not in the CHANNEL; its first place counts).");
        AlpCommune none = Communes.withHouses(2);
        none.channel(0, 0, 0);
        due("no hours", none.gets(0, 0, 100), 0);
        due("no hours", none.gets(0, MOST, 100), 0);
        AlpCommune x = channelOf(row(1, 0));
        due("not in the CHANNEL", x.gets(0, 0, 100), 0);
        due("in it, not its hour", x.gets(1, 0, 100), 0);
        x.channel(1, 0, 0);
        due("in the CHANNEL", x.gets(0, 0, 100), 100);
        due("no CHANNEL", channelOf().gets(0, 0, 100), 0);
        due("its first place", channelOf(row(0, 10), row(0, 90)).gets(0, 0, 100), 90);
        due("its first place", channelOf(row(1, 50), row(0, 10), row(1, 0), row(0, 0)).gets(0, 0, 100), 45);
    }

    static void p37_5NoneSuch() {
        sentence("-5: none such.");
        AlpCommune x = channelOf(row(0, 0));
        for (int h : outside(0, 2)) due("house " + h, x.gets(h, 0, 100), -5);
        for (int h : new int[] {LEAST, -1}) due("hour " + h, x.gets(0, h, 100), -5);
        due("the greatest hour", x.gets(0, MOST, 100), 100);
        due("the last house", x.gets(2, 0, 100), 0);
    }

    // ---- turns and works

    private static void turns(String what, AlpCommune x, int kind, int... due) {
        for (int i = 0; i < due.length; i++) due(what + ", turn " + i, x.turn(kind), due[i]);
    }

    static void t5_from0OnBehindTheOneThatHadItLast() {
        sentence("each goes round by numbers of HOUSES, from 0 on, behind the one that had it last");
        for (int kind = 0; kind < 3; kind++) {
            turns("kind " + kind, Communes.withHouses(3), kind, 0, 1, 2, 0, 1, 2, 0);
            turns("one house", Communes.withHouses(1), kind, 0, 0, 0);
            AlpCommune ten = Communes.withHouses(10);
            turns("ten houses", ten, kind, 0, 1, 2, 3, 4, 5, 6, 7, 8, 9, 0, 1);
            AlpCommune x = Communes.withHouses(2);
            turns("two", x, kind, 0, 1);
            x.house(1, 3, 1, 0);
            turns("a third one came", x, kind, 2, 0);
            turns("the others are as they were", x, (kind + 1) % 3, 0);
        }
    }

    static void t5_oneWithCows0IsPassedOverFor0() {
        sentence("one with COWS 0 is passed over for 0");
        AlpCommune x = Communes.withHouses(3);
        x.change(1, 2, 0);
        turns("1 has none", x, 0, 0, 2, 0);
        turns("watch", x, 1, 0, 1, 2);
        turns("office", x, 2, 0, 1, 2);
        x.change(1, 2, 1);
        x.change(2, 2, 0);
        turns("1 has one", x, 0, 1, 0, 1);
        x.change(0, 2, 0);
        turns("1 alone", x, 0, 1, 1);
        x.change(1, 2, 0);
        turns("nobody", x, 0, -1, -1);
        x.change(2, 2, 1);
        turns("2 alone", x, 0, 2, 2);
    }

    static void t5_oneWithHeadsBelow3For2() {
        sentence("one with HEADS below 3 for 2");
        AlpCommune x = Communes.withHouses(3);
        x.change(0, 1, 2);
        turns("0 has 2", x, 2, 1, 2, 1);
        turns("herd", x, 0, 0, 1, 2);
        turns("watch", x, 1, 0, 1, 2);
        x.change(0, 1, 3);
        x.change(2, 1, 1);
        turns("0 has 3", x, 2, 0, 1, 0);
        x.change(0, 1, 1);
        x.change(1, 1, 1);
        turns("nobody", x, 2, -1, -1);
        x.change(2, 1, 20);
        turns("2 alone", x, 2, 2, 2);
    }

    private static AlpCommune watching(String... words) {
        AlpCommune x = new AlpCommune();
        for (int h = 1; h <= 3; h++) x.house(h, 1, 0, 0);
        for (String word : words) pass(x, word);
        return x;
    }

    static void t5_asManyTimesInARowAsWatch() {
        sentence("1 goes to one as many times in a row as watch (a VALUE of it as its TURN comes again; 1 at least) tells.");
        turns("watch 1", watching(), 1, 0, 1, 2, 0);
        turns("watch 2", watching("watch 2"), 1, 0, 0, 1, 1, 2, 2, 0, 0, 1);
        turns("watch 3 of one", watching("watch 3 if hearths=2"), 1, 0, 1, 1, 1, 2, 0, 1, 1, 1, 2);
        turns("watch 2 of the first", watching("watch 2 if hearths=1"), 1, 0, 0, 1, 2, 0, 0, 1);
        AlpCommune x = watching("watch 2");
        turns("watch 2", x, 1, 0, 0, 1);
        pass(x, "watch 3");
        turns("as its TURN comes again", x, 1, 1, 1, 2);
        pass(x, "watch 1");
        turns("as its TURN comes again", x, 1, 0, 1, 2);
        turns("herd and office go on alone", x, 2, -1);
        AlpCommune many = watching("watch 99999");
        for (int i = 0; i < 450; i++) due("many times", many.turn(1), 0);
    }

    static void t5_1AtLeast() {
        sentence("(a VALUE of it as its TURN comes again; 1 at least)");
        turns("watch 0", watching("watch 0"), 1, 0, 1, 2, 0, 1);
        turns("watch 0 of one", watching("watch 2", "watch 0 if hearths=2"), 1, 0, 0, 1, 2, 2, 0, 0, 1, 2);
    }

    static void t5_whatIsNotDoneCostsFineEachAsDebt() {
        sentence("WORKS: each HOUSE owes heads (a VALUE) times its HEADS a YEAR; done is told; at a YEAR's end (by hand, once a YEAR) what is not done costs fine each as DEBT");
        // 2 by 4 HEADS: 8 works, 5 coins each.
        int[] done = {0, 1, 7, 8, 9, 999}, coins = {40, 35, 5, 0, 0, 0};
        for (int i = 0; i < done.length; i++) {
            AlpCommune x = new AlpCommune();
            x.house(1, 4, 0, 0);
            if (done[i] > 0) x.work(0, done[i]);
            due("coins for " + done[i], x.year(), coins[i]);
            due("DEBT", x.told(0, 4), coins[i]);
        }
        AlpCommune two = new AlpCommune();
        two.house(1, 1, 0, 0);
        two.house(1, 20, 0, 0);
        pass(two, "heads 3 if heads=20");
        pass(two, "fine 7 if heads=1");
        two.work(1, 100);
        due("each its own", two.year(), 2 * 7);
        debts("each its own", two, 14, 0);
        AlpCommune zero = new AlpCommune();
        zero.house(1, 20, 0, 0);
        pass(zero, "heads 0");
        due("heads 0", zero.year(), 0);
        AlpCommune free = new AlpCommune();
        free.house(1, 20, 0, 0);
        pass(free, "fine 0");
        due("fine 0", free.year(), 0);
    }

    static void t5_andNothingIsDoneThen() {
        sentence("and nothing is done then.");
        AlpCommune x = Communes.withHouses(2);
        x.work(0, 99);
        x.work(1, 2);
        x.year();
        due("done by 0", x.told(0, 12), 0);
        due("done by 1", x.told(1, 12), 0);
        due("more than was owed is not kept", x.work(0, 1), 1);
        live(x, 360);
        due("coins", x.year(), (5 + 6) * 5);
    }

    static void p38_noneNoneSuchNobodyCanHaveIt() {
        sentence("A TURN goes to the next HOUSE: which. NONE: none such, nobody can have it.");
        for (int kind : outside(0, 2)) refused("kind " + kind, -1, Communes::valley, x -> x.turn(kind));
        for (int kind = 0; kind < 3; kind++) due("no house, kind " + kind, new AlpCommune().turn(kind), -1);
        AlpCommune x = new AlpCommune();
        x.house(1, 2, 0, 0);
        turns("no COWS", x, 0, -1, -1);
        turns("no HEADS", x, 2, -1, -1);
        turns("anybody", x, 1, 0, 0);
        x.house(1, 3, 1, 0);
        turns("one that came", x, 0, 1, 1);
        turns("one that came", x, 2, 1, 1);
        refused("nobody changes nothing", -1, BoundsGoodsTest::withoutCows, y -> y.turn(0));
        AlpCommune y = withoutCows();
        turns("nobody", y, 0, -1);
        for (int h = 0; h < 3; h++) y.change(h, 2, 1);
        turns("behind the one that had it last", y, 0, 2, 0);
        AlpCommune office = Communes.withHouses(2);
        turns("office", office, 2, 0);
        for (int h = 0; h < 2; h++) office.change(h, 1, 2);
        turns("nobody", office, 2, -1);
        for (int h = 0; h < 2; h++) office.change(h, 1, 3);
        turns("behind the one that had it last", office, 2, 1, 0);
    }

    /** The herd was with 1, and nobody has cows. */
    private static AlpCommune withoutCows() {
        AlpCommune x = Communes.withHouses(3);
        x.turn(0);
        x.turn(0);
        for (int h = 0; h < 3; h++) x.change(h, 2, 0);
        return x;
    }

    static void p39_n1_999() {
        sentence("n (1 .. 999) works are done by a HOUSE: how many it has done this YEAR. NONE; BAD.");
        AlpCommune x = Communes.withHouses(2);
        due("1", x.work(1, 1), 1);
        due("999", x.work(1, 999), 1000);
        due("each its own", x.work(0, 999), 999);
        for (int n : outside(1, 999)) refused("n " + n, -2, Communes::valley, y -> y.work(0, n));
        for (int h : outside(0, 2)) refused("house " + h, -1, Communes::valley, y -> y.work(h, 1));
        refused("NONE and BAD", -1, Communes::valley, y -> y.work(3, 0));
        refused("NONE and BAD", -1, Communes::valley, y -> y.work(-1, 1000));
    }

    /** It was told on a day that the year is over. */
    private static AlpCommune toldOn(int day, int now) {
        AlpCommune x = Communes.withHouses(2);
        live(x, day);
        x.year();
        x.work(0, 3);
        live(x, now - day);
        return x;
    }

    static void p40_stateItWasToldInThisYear() {
        sentence("A YEAR's end: coins that became DEBT. STATE: it was told in this YEAR (DAY by 360) already.");
        refused("told on 0, on 0", -3, () -> toldOn(0, 0), AlpCommune::year);
        refused("told on 0, on 359", -3, () -> toldOn(0, 359), AlpCommune::year);
        due("told on 0, on 360", toldOn(0, 360).year(), (3 + 6) * 5);
        due("told on 359, on 360", toldOn(359, 360).year(), (3 + 6) * 5);
        refused("told on 360, on 719", -3, () -> toldOn(360, 719), AlpCommune::year);
        due("told on 360, on 720", toldOn(360, 720).year(), (3 + 6) * 5);
        due("told on 0, on 7199", toldOn(0, 7199).year(), (3 + 6) * 5);
        due("in the first YEAR", Communes.withHouses(2).year(), 60);
        AlpCommune none = new AlpCommune();
        due("no house", none.year(), 0);
        due("no house, told", none.year(), -3);
        AlpCommune x = Communes.withHouses(1);
        x.house(1, 10, 0, 0);
        pass(x, "fine 99999 if heads=10");
        pass(x, "heads 99999 if heads=10");
        due("coins that became DEBT", x.year(), 30 + 99999999);
    }
}
