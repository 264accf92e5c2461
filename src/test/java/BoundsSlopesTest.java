/** Boundary cases of "==== 4", (e), (f) and the slopes, and promises 27 to 30; a test for each sentence. */
public final class BoundsSlopesTest extends Check {
    public static void main(String[] args) throws IllegalAccessException {
        runSentences(BoundsSlopesTest.class);
    }

    /** A slope with wood of an age, on which days were lived, {WARM, FALL} each. The first day's age is 1 more behind it. */
    private static AlpCommune slope(int age, int[]... days) {
        AlpCommune x = Communes.withHouses(1);
        x.slope(age);
        Communes.live(x, days);
        return x;
    }

    private static int[] day(int warm, int fall) {
        return new int[] {warm, fall};
    }

    private static void lie(String what, AlpCommune x, int... layers) {
        due(what + ", LAYERS", x.slopeOf(0, 2), layers.length);
        for (int i = 0; i < layers.length; i++) due(what + ", LAYER " + i, x.slopeOf(0, 10 + i), layers[i]);
        due(what + ", no more", x.slopeOf(0, 10 + layers.length), -500);
    }

    private static AlpCommune sixSlopes() {
        AlpCommune x = Communes.withHouses(1);
        for (int s = 0; s < 6; s++) x.slope(60 * s);
        return x;
    }

    // ---- slopes

    static void t4_slopes0_5() {
        sentence("SLOPES 0 .. 5, as they come");
        AlpCommune x = new AlpCommune();
        for (int s = 0; s < 6; s++) {
            due("none yet", x.slopeOf(s, 0), -500);
            due("slope " + s, x.slope(10 * s), s);
            due("AGE", x.slopeOf(s, 0), 10 * s);
        }
        due("slope 6", x.slopeOf(6, 0), -500);
        refused("a seventh", -4, BoundsSlopesTest::sixSlopes, y -> y.slope(0));
    }

    static void t4_ageOfItsWood0_400() {
        sentence("AGE of its WOOD (0 .. 400)");
        for (int age : new int[] {0, 400}) {
            AlpCommune x = new AlpCommune();
            due("age " + age, x.slope(age), 0);
            due("is", x.slopeOf(0, 0), age);
        }
        for (int age : outside(0, 400)) refused("age " + age, -2, Communes::valley, x -> x.slope(age));
    }

    static void t4_worksOrNotNotAtFirst() {
        sentence("WORKS or not (not at first)");
        due("WORKS", slope(9).slopeOf(0, 1), 0);
        due("HOLDS", slope(9).slopeOf(0, 5), 41);
    }

    static void t4_theWayIsShutByHandOrNotAtFirst() {
        sentence("THE WAY is SHUT by hand, or not (at first).");
        AlpCommune x = slope(0, day(0, 1), day(-9, 40));
        due("a SLIDE", x.count(7), 1);
        due("does not shut it", x.count(13), 0);
        due("it was open", x.shut(false), 0);
    }

    // ---- layers

    static void t4_fallIfItIsAbove0AndWarmIs2OrLess() {
        sentence("FALL, if it is above 0 and WARM is 2 or less, lies on it as a new LAYER");
        lie("WARM 2, FALL 1", slope(0, day(2, 1)), -1);
        lie("WARM 2, FALL 0", slope(0, day(2, 0)));
        lie("WARM 3, FALL 1", slope(0, day(3, 1)));
        lie("WARM 3, FALL 200", slope(0, day(3, 200)));
        lie("WARM -40, FALL 200", slope(0, day(-40, 200)), 200);
        lie("WARM 2, twice", slope(0, day(2, 5), day(2, 6)), -5, -6);
    }

    static void t4_softIfWarmIsAbove5() {
        sentence("SOFT if WARM is above -5");
        lie("WARM -5", slope(0, day(-5, 9)), 9);
        lie("WARM -4", slope(0, day(-4, 9)), -9);
        lie("WARM 2", slope(0, day(2, 9)), -9);
        lie("WARM -40", slope(0, day(-40, 9)), 9);
    }

    static void t4_ofMoreThan6TheTwoLowestBecomeOne() {
        sentence("of more than 6 the two lowest become one (SOFT if either is).");
        AlpCommune x = slope(0, day(-9, 1), day(-9, 2), day(-9, 3), day(-9, 4), day(-9, 5), day(-9, 6));
        lie("six", x, 1, 2, 3, 4, 5, 6);
        Communes.live(x, day(-9, 7));
        lie("seven", x, 3, 3, 4, 5, 6, 7);
        Communes.live(x, day(-9, 200));
        lie("eight", x, 6, 4, 5, 6, 7, 200);
        due("all that lies there", x.slopeOf(0, 3), 228);
    }

    static void t4_softIfEitherIs() {
        sentence("(SOFT if either is).");
        int[][] lowest = {{-9, -9}, {-9, 0}, {0, -9}, {0, 0}};
        int[] joined = {3, -3, -3, -3};
        for (int i = 0; i < 4; i++) {
            AlpCommune x = slope(0, day(lowest[i][0], 1), day(lowest[i][1], 2), day(-9, 3), day(-9, 4), day(-9, 5), day(-9, 6), day(-9, 7));
            lie("of " + lowest[i][0] + " and " + lowest[i][1], x, joined[i], 3, 4, 5, 6, 7);
        }
    }

    static void t4_ifWarmIsAbove2TheUppermostLayerLoses3TimesWarm() {
        sentence("If WARM is above 2 the uppermost LAYER loses 3 times WARM");
        lie("WARM 2", slope(0, day(-9, 20), day(2, 0)), 20);
        lie("WARM 3", slope(0, day(-9, 20), day(3, 0)), 11);
        lie("WARM 6", slope(0, day(-9, 20), day(6, 0)), 2);
        lie("the uppermost alone", slope(0, day(-9, 20), day(-9, 30), day(3, 0)), 20, 21);
        lie("WARM 40", slope(0, day(-9, 121), day(40, 0)), 1);
        lie("it is SOFT", slope(0, day(0, 10), day(3, 0)), -1);
        lie("without any", slope(0, day(40, 0)));
    }

    static void t4_ifThatIsAllOfItItIsGone() {
        sentence("and, if that is all of it, it is gone (nothing more).");
        lie("1 more than that", slope(0, day(-9, 5), day(-9, 10), day(3, 0)), 5, 1);
        lie("as much as that", slope(0, day(-9, 5), day(-9, 9), day(3, 0)), 5);
        lie("less than that", slope(0, day(-9, 5), day(-9, 8), day(3, 0)), 5);
        lie("far less than that", slope(0, day(-9, 5), day(-9, 1), day(40, 0)), 5);
        lie("the last", slope(0, day(-9, 5), day(40, 0)));
        lie("two days", slope(0, day(-9, 5), day(-9, 1), day(3, 0), day(3, 0)));
    }

    // ---- sliding

    static void t4_thereLieHoldsOrMore() {
        sentence("Then it SLIDES if over some SOFT LAYER (itself not counted) there lie HOLDS or more");
        lie("39 by HOLDS 40", slope(0, day(0, 9), day(-9, 39)), -9, 39);
        lie("40 by HOLDS 40", slope(0, day(0, 9), day(-9, 40)));
        lie("41 by HOLDS 40", slope(0, day(0, 9), day(-9, 41)));
        lie("20 and 20", slope(0, day(0, 9), day(-9, 20), day(-9, 20)));
        lie("20 and 19", slope(0, day(0, 9), day(-9, 20), day(-9, 19)), -9, 20, 19);
        lie("200 over none that is SOFT", slope(0, day(-9, 9), day(-9, 200)), 9, 200);
        lie("over one that is not the lowest LAYER", slope(0, day(-9, 7), day(0, 9), day(-9, 40)), 7);
        AlpCommune x = slope(0, day(0, 9), day(-9, 39));
        due("it did not SLIDE", x.slopeOf(0, 6), 0);
        Communes.live(x, day(-9, 1));
        due("it SLID", x.slopeOf(0, 6), 1);
    }

    static void t4_itselfNotCounted() {
        sentence("(itself not counted)");
        lie("200 SOFT, and 39", slope(0, day(0, 200), day(-9, 39)), -200, 39);
        lie("200 SOFT alone", slope(0, day(0, 200)), -200);
        lie("SOFT 200 on 9", slope(0, day(-9, 9), day(0, 200)), 9, -200);
        lie("SOFT 39 on SOFT 200", slope(0, day(0, 200), day(0, 39)), -200, -39);
        lie("SOFT 40 on SOFT 200", slope(0, day(0, 200), day(0, 40)));
    }

    static void t4_40AndItsAgeBy5Cut() {
        sentence("HOLDS or more: 40 and its AGE by 5 (cut)");
        int[] ages = {0, 4, 5, 9, 10, 199, 200, 399, 400}, holds = {40, 40, 41, 41, 42, 79, 80, 119, 120};
        for (int i = 0; i < ages.length; i++) due("HOLDS by AGE " + ages[i], slope(ages[i]).slopeOf(0, 5), holds[i]);
        // Behind the first day the AGE is 1 more.
        due("40 by AGE 4", slope(3, day(0, 9), day(-9, 40)).slopeOf(0, 6), 1);
        due("40 by AGE 5", slope(4, day(0, 9), day(-9, 40)).slopeOf(0, 6), 0);
        due("41 by AGE 5", slope(4, day(0, 9), day(-9, 41)).slopeOf(0, 6), 1);
        due("119 by AGE 400", slope(400, day(0, 9), day(-9, 119)).slopeOf(0, 6), 0);
        due("120 by AGE 400", slope(400, day(0, 9), day(-9, 120)).slopeOf(0, 6), 1);
    }

    private static AlpCommune worksOn(int age, int over) {
        AlpCommune x = slope(age);
        x.works(0, true);
        Communes.live(x, day(0, 9), day(-9, over));
        return x;
    }

    static void t4_and30IfItHasWorks() {
        sentence("and 30 if it has WORKS");
        due("69 by AGE 0", worksOn(0, 69).slopeOf(0, 6), 0);
        due("70 by AGE 0", worksOn(0, 70).slopeOf(0, 6), 1);
        due("149 by AGE 400", worksOn(400, 149).slopeOf(0, 6), 0);
        due("150 by AGE 400", worksOn(400, 150).slopeOf(0, 6), 1);
        due("HOLDS at most", worksOn(400, 1).slopeOf(0, 5), 150);
        AlpCommune x = worksOn(0, 69);
        x.works(0, false);
        due("not till it is lived", x.slopeOf(0, 6), 0);
        Communes.live(x, day(-9, 0));
        due("without them", x.slopeOf(0, 6), 1);
    }

    static void t4_theLowestSuch() {
        sentence("all LAYERS from that SOFT one on (the lowest such) are gone");
        lie("two SOFT ones", slope(0, day(-9, 5), day(0, 6), day(0, 7), day(-9, 40)), 5);
        lie("the lower one alone", slope(0, day(-9, 5), day(0, 6), day(0, 7), day(-9, 33)), 5);
        lie("neither", slope(0, day(-9, 5), day(0, 6), day(0, 7), day(-9, 32)), 5, -6, -7, 32);
        lie("the lowest of all", slope(0, day(0, 6), day(-9, 3), day(0, 7), day(-9, 40)));
    }

    static void t4_becomes0IfThatIsBelow40() {
        sentence("AGE of its WOOD becomes 0 if that is below 40");
        // On the day of the SLIDE the AGE is 1 more than at first.
        due("AGE 39", slope(38, day(0, 9), day(-9, 47)).slopeOf(0, 0), 0);
        due("it SLID", slope(38, day(0, 9), day(-9, 47)).slopeOf(0, 6), 1);
        due("AGE 40", slope(39, day(0, 9), day(-9, 48)).slopeOf(0, 0), 40);
        due("it SLID", slope(39, day(0, 9), day(-9, 48)).slopeOf(0, 6), 1);
        due("AGE 400", slope(400, day(0, 9), day(-9, 120)).slopeOf(0, 0), 400);
        due("AGE 39 without a SLIDE", slope(38, day(0, 9), day(-9, 46)).slopeOf(0, 0), 39);
    }

    static void t4_ifTheWayWasNotShutItIsMissed() {
        sentence("a SLIDE is told: if THE WAY was not SHUT, it is MISSED.");
        AlpCommune x = slope(0);
        x.slope(0);
        x.slope(400);
        Communes.live(x, day(0, 9), day(-9, 40));
        due("SLIDES", x.count(7), 2);
        due("MISSED, each", x.count(8), 2);
        x.shut(true);
        Communes.live(x, day(0, 9), day(-9, 40));
        due("SLIDES", x.count(7), 4);
        due("MISSED", x.count(8), 2);
        x.shut(false);
        Communes.live(x, day(-9, 80));
        due("SLIDES", x.count(7), 5);
        due("MISSED", x.count(8), 3);
        due("SHUT in vain", x.count(9), 1);
    }

    static void t4_andNoSlopeSlid() {
        sentence("If THE WAY was SHUT, and no SLOPE SLID: a day SHUT in vain.");
        AlpCommune x = slope(0);
        x.slope(400);
        x.shut(true);
        Communes.live(x, day(0, 9));
        due("in vain", x.count(9), 1);
        Communes.live(x, day(-9, 40));
        due("one of two SLID", x.count(7), 1);
        due("not in vain", x.count(9), 1);
        Communes.live(x, day(-9, 0));
        due("in vain again", x.count(9), 2);
        x.shut(false);
        Communes.live(x, day(-9, 0));
        due("not SHUT", x.count(9), 2);
        AlpCommune none = new AlpCommune();
        none.shut(true);
        none.days(120);
        due("without a SLOPE", none.count(9), 120);
    }

    static void t4_onEachDayLivedThatModulo360Is0() {
        sentence("AGE of each SLOPE's WOOD is 1 more on each DAY lived that modulo 360 is 0 (400 at most).");
        int[] days = {0, 1, 2, 359, 360, 361, 720, 721}, ages = {10, 11, 11, 11, 11, 12, 12, 13};
        for (int i = 0; i < days.length; i++) {
            AlpCommune x = slope(10);
            x.slope(50);
            live(x, days[i]);
            due("AGE behind " + days[i], x.slopeOf(0, 0), ages[i]);
            due("of each, behind " + days[i], x.slopeOf(1, 0), ages[i] + 40);
        }
        AlpCommune late = new AlpCommune();
        live(late, 1);
        late.slope(10);
        live(late, 359);
        due("one that came on day 1", late.slopeOf(0, 0), 10);
        late.days(1);
        due("on day 360", late.slopeOf(0, 0), 11);
    }

    static void t4_400AtMost() {
        sentence("is 0 (400 at most).");
        int[] ages = {398, 399, 400}, first = {399, 400, 400}, then = {400, 400, 400};
        for (int i = 0; i < 3; i++) {
            AlpCommune x = slope(ages[i]);
            x.days(1);
            due("AGE " + ages[i], x.slopeOf(0, 0), first[i]);
            live(x, 360);
            due("AGE " + ages[i] + " in the second year", x.slopeOf(0, 0), then[i]);
        }
        AlpCommune x = slope(390);
        live(x, 7199);
        due("20 years", x.slopeOf(0, 0), 400);
        AlpCommune y = slope(0);
        live(y, 7199);
        due("20 years from 0 on", y.slopeOf(0, 0), 20);
    }

    static void t4_0WithoutOne() {
        sentence("RISK of a SLOPE now: how much lies over its lowest SOFT LAYER (0 without one), by HOLDS, in hundredths, cut.");
        due("no LAYER", slope(0).slopeOf(0, 4), 0);
        due("no SOFT one", slope(0, day(-9, 200)).slopeOf(0, 4), 0);
        due("nothing over it", slope(0, day(0, 200)).slopeOf(0, 4), 0);
        due("over the lowest", slope(0, day(0, 9), day(-9, 10), day(0, 9), day(-9, 5)).slopeOf(0, 4), 60);
    }

    static void t4_inHundredthsCut() {
        sentence("by HOLDS, in hundredths, cut.");
        int[] over = {1, 2, 38, 39}, risk = {2, 5, 95, 97};
        for (int i = 0; i < 4; i++) due(over[i] + " by 40", slope(0, day(0, 9), day(-9, over[i])).slopeOf(0, 4), risk[i]);
        due("119 by 120", slope(400, day(0, 9), day(-9, 119)).slopeOf(0, 4), 99);
        due("149 by 150", worksOn(400, 149).slopeOf(0, 4), 99);
        AlpCommune x = worksOn(0, 69);
        due("69 by 70", x.slopeOf(0, 4), 98);
        x.works(0, false);
        due("69 by 40, WORKS are gone", x.slopeOf(0, 4), 172);
        AlpCommune y = worksOn(3, 40);
        y.works(0, false);
        due("40 by 40", y.slopeOf(0, 4), 100);
    }

    // ---- calls

    static void p27_badFull() {
        sentence("A SLOPE: its number. BAD; FULL.");
        refused("BAD and FULL", -2, BoundsSlopesTest::sixSlopes, x -> x.slope(-1));
        refused("BAD and FULL", -2, BoundsSlopesTest::sixSlopes, x -> x.slope(401));
        refused("FULL", -4, BoundsSlopesTest::sixSlopes, x -> x.slope(400));
        refused("BAD", -2, Communes::valley, x -> x.slope(401));
        due("the third", Communes.valley().slope(400), 2);
    }

    static void p28_500NoneSuch() {
        sentence("10 and i: LAYER i from the ground on, less if SOFT (below 0). -500: none such.");
        AlpCommune x = Communes.valley();
        for (int s : outside(0, 1)) due("slope " + s, x.slopeOf(s, 0), -500);
        for (int what : new int[] {LEAST, -1, 7, 8, 9, 13, 14, 15, 16, MOST}) due("what " + what, x.slopeOf(0, what), -500);
        int[] layers = {30, -20, 10};
        for (int i = 0; i < 3; i++) due("LAYER " + i, x.slopeOf(0, 10 + i), layers[i]);
        due("both", x.slopeOf(2, 7), -500);
        AlpCommune six = slope(0, day(-9, 1), day(-9, 2), day(-9, 3), day(-9, 4), day(-9, 5), day(0, 6));
        due("the sixth LAYER", six.slopeOf(0, 15), -6);
        due("a seventh", six.slopeOf(0, 16), -500);
        AlpCommune none = slope(0);
        due("no LAYER", none.slopeOf(0, 10), -500);
        due("how often it SLID", none.slopeOf(0, 6), 0);
    }

    static void p29_0IfItWasSo() {
        sentence("WORKS are on a SLOPE, or not: 1; 0 if it was so. NONE.");
        AlpCommune x = Communes.valley();
        due("there are none", x.works(1, false), 0);
        due("there are", x.works(1, true), 1);
        due("there are", x.works(1, true), 0);
        due("WORKS", x.slopeOf(1, 1), 1);
        due("none on the other", x.slopeOf(0, 1), 0);
        due("there are none", x.works(1, false), 1);
        due("there are none", x.works(1, false), 0);
        for (int s : outside(0, 1)) {
            refused("slope " + s, -1, Communes::valley, y -> y.works(s, true));
            refused("slope " + s, -1, Communes::valley, y -> y.works(s, false));
        }
    }

    static void p30_0IfItWasSo() {
        sentence("THE WAY is SHUT, or not: 1; 0 if it was so.");
        AlpCommune x = new AlpCommune();
        boolean[] is = {false, true, true, false, false, true};
        int[] answers = {0, 1, 0, 1, 0, 1}, shut = {0, 1, 1, 0, 0, 1};
        for (int i = 0; i < is.length; i++) {
            due("shut " + i, x.shut(is[i]), answers[i]);
            due("count(13) " + i, x.count(13), shut[i]);
        }
    }
}
