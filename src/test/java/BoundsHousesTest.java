/** Boundary cases of "==== 1" (houses) and promises 1 to 5, a test for each sentence. */
public final class BoundsHousesTest extends Check {
    public static void main(String[] args) throws IllegalAccessException {
        runSentences(BoundsHousesTest.class);
    }

    static void t1_houses0_9() {
        sentence("HOUSES 0 .. 9, as they come");
        AlpCommune x = new AlpCommune();
        for (int h = 0; h < 10; h++) {
            due("told of a house to come", x.told(h, 0), -5);
            due("house " + h, x.house(1, 1, 0, 0), h);
        }
        due("the last", x.told(9, 0), 1);
        due("told(10)", x.told(10, 0), -5);
        due("told(-1)", x.told(-1, 0), -5);
        refused("an eleventh", -4, () -> Communes.withHouses(10), y -> y.house(1, 1, 0, 0));
    }

    /** What of a house may be from least to most, as it comes and as it changes. */
    private static void havings(int what, int least, int most) {
        for (int v : new int[] {least, most}) {
            AlpCommune x = new AlpCommune();
            due("house with " + v, house(x, what, v), 0);
            due("has", x.told(0, what), v);
            due("change", x.change(0, what, most + least - v), v);
            due("has then", x.told(0, what), most + least - v);
            due("change back", x.change(0, what, v), most + least - v);
        }
        for (int v : outside(least, most)) {
            refused("house with " + v, -2, Communes::valley, x -> house(x, what, v));
            refused("change to " + v, -2, Communes::valley, x -> x.change(2, what, v));
        }
    }

    private static int house(AlpCommune x, int what, int v) {
        return x.house(what == 0 ? v : 1, what == 1 ? v : 1, what == 2 ? v : 0, what == 3 ? v : 0);
    }

    static void t1_hearths1_9() {
        sentence("HEARTHS (1 .. 9)");
        havings(0, 1, 9);
    }

    static void t1_heads1_20() {
        sentence("HEADS (1 .. 20)");
        havings(1, 1, 20);
    }

    static void t1_cows0_99() {
        sentence("COWS (0 .. 99)");
        havings(2, 0, 99);
    }

    static void t1_hay0_99999() {
        sentence("HAY (0 .. 99999)");
        havings(3, 0, 99999);
    }

    static void t1_debt0AtFirst() {
        sentence("DEBT (0 at first");
        due("DEBT", Communes.withHouses(1).told(0, 4), 0);
    }

    /** A house with so many coins of debt, by works that were not done: fine times heads times 10 of them. */
    private static AlpCommune indebted(int fine, int heads) {
        AlpCommune x = new AlpCommune();
        x.house(1, 10, 99, 99999);
        pass(x, "fine " + fine);
        pass(x, "heads " + heads);
        return x;
    }

    static void t1_whatWouldGoBeyondThatDoesntBecomeDebt() {
        sentence("99999999 at most: what would go beyond that doesn't become DEBT");
        // 10 HEADS, 10000 of "heads", fine 999: 99900000; the missing 99999 are the next year's, with "heads" 1 and HEADS 1.
        AlpCommune x = indebted(999, 10000);
        due("coins", x.year(), 99900000);
        x.change(0, 1, 1);
        pass(x, "heads 1");
        pass(x, "fine 99998");
        live(x, 360);
        due("up to one less than the most", x.year(), 99998);
        due("DEBT", x.told(0, 4), 99999998);
        pass(x, "fine 1");
        live(x, 360);
        due("up to the most", x.year(), 1);
        due("DEBT", x.told(0, 4), 99999999);
        live(x, 360);
        due("beyond it", x.year(), 0);
        due("DEBT", x.told(0, 4), 99999999);
        x.slope(400);
        pass(x, "lot 0");
        due("LOGS", x.fell(0, 0), 100);
        due("DEBT, 100 are paid", x.told(0, 4), 99999899);
        pass(x, "fine 99999");
        live(x, 360);
        due("as far as it goes", x.year(), 100);
        due("DEBT", x.told(0, 4), 99999999);
    }

    static void p1_noHousesRightsAlpsSlopesDay0() {
        sentence("No HOUSES, RIGHTS, ALPS, SLOPES; DAY 0.");
        AlpCommune x = new AlpCommune();
        for (int what = 0; what <= 14; what++) due("count(" + what + ")", x.count(what), 0);
        due("house 0", x.told(0, 0), -5);
        due("right 0", x.rightOf(0, 0), -5);
        due("alp 0", x.alpOf(0, 0), -5);
        due("slope 0", x.slopeOf(0, 0), -500);
        due("word 0", x.voids(0), -1);
        due("drive 0", x.book(0, 0), -5);
        due("a body", x.trace(0), -1);
        due("a sheet", x.cell(0, 0, 0), -11);
        due("a day that was lived", x.measure(), -3);
    }

    static void p2_itsNumber() {
        sentence("A HOUSE: its number.");
        AlpCommune x = new AlpCommune();
        due("house", x.house(9, 20, 99, 99999), 0);
        due("house", x.house(1, 1, 0, 0), 1);
        int[][] had = {{9, 20, 99, 99999}, {1, 1, 0, 0}};
        for (int h = 0; h < 2; h++) for (int what = 0; what < 4; what++) due("told " + h + " " + what, x.told(h, what), had[h][what]);
    }

    static void p2_badFull() {
        sentence("BAD; FULL.");
        refused("BAD", -2, Communes::valley, x -> x.house(0, 1, 0, 0));
        refused("FULL", -4, () -> Communes.withHouses(10), x -> x.house(1, 1, 0, 0));
        refused("BAD and FULL", -2, () -> Communes.withHouses(10), x -> x.house(1, 1, 100, 0));
        refused("BAD and FULL", -2, () -> Communes.withHouses(10), x -> x.house(1, 21, 0, 0));
        AlpCommune nine = Communes.withHouses(9);
        due("the tenth", nine.house(1, 1, 0, 0), 9);
    }

    static void p3_whatItWas() {
        sentence("what 0 HEARTHS, 1 HEADS, 2 COWS (not below those UP), 3 HAY becomes v: what it was.");
        AlpCommune x = Communes.withHouses(1);
        int[] was = {2, 3, 10, 100}, is = {3, 4, 11, 99};
        for (int what = 0; what < 4; what++) due("change " + what, x.change(0, what, is[what]), was[what]);
        for (int what = 0; what < 4; what++) due("told " + what, x.told(0, what), is[what]);
        for (int what = 0; what < 4; what++) due("to the same " + what, x.change(0, what, is[what]), is[what]);
    }

    static void p3_notBelowThoseUp() {
        sentence("2 COWS (not below those UP)");
        // House 0 has 4 COWS UP on alp 0 and 3 on alp 1.
        refused("6 COWS", -2, Communes::valley, x -> x.change(0, 2, 6));
        refused("3 COWS", -2, Communes::valley, x -> x.change(0, 2, 3));
        AlpCommune x = Communes.valley();
        due("7 COWS", x.change(0, 2, 7), 10);
        due("at home", x.told(0, 5), 0);
        x.home(0, 1, 1);
        due("5 COWS", x.change(0, 2, 5), -2);
        due("6 COWS", x.change(0, 2, 6), 7);
        due("those of another house do not matter", x.change(2, 2, 0), 0);
    }

    static void p3_noneWhatToo() {
        sentence("NONE (what, too); BAD.");
        for (int h : outside(0, 2)) refused("house " + h, -1, Communes::valley, x -> x.change(h, 0, 1));
        for (int what : outside(0, 3)) refused("what " + what, -1, Communes::valley, x -> x.change(0, what, 1));
        refused("NONE by house, and BAD", -1, Communes::valley, x -> x.change(3, 0, 10));
        refused("NONE by what, and BAD", -1, Communes::valley, x -> x.change(0, 4, -1));
        refused("BAD", -2, Communes::valley, x -> x.change(0, 0, 10));
    }

    static void p4_5NoneSuch() {
        sentence("-5: none such.");
        AlpCommune x = Communes.valley();
        for (int h : outside(0, 2)) due("house " + h, x.told(h, 0), -5);
        for (int what : outside(0, 12)) due("what " + what, x.told(0, what), -5);
        due("the last what", x.told(0, 12), 2);
        due("the last house", x.told(2, 3), 50);
        due("both", x.told(3, 13), -5);
    }

    static void p4_cowsAtHome() {
        sentence("5 COWS at home");
        AlpCommune x = Communes.valley();
        int[] home = {3, 4, 0};
        for (int h = 0; h < 3; h++) due("of " + h, x.told(h, 5), home[h]);
    }

    static void p4_milkOfTheDayLivedLast() {
        sentence("7 MILK of the DAY lived last");
        AlpCommune x = Communes.free(5, 7);
        x.alp(0, 99);
        Communes.live(x, new int[] {20, 0});
        x.drive(0, 0, 5);
        due("of a day without any up", x.told(0, 7), 0);
        x.days(1);
        due("of a day with 5 up", x.told(0, 7), 40);
        x.drive(1, 0, 7);
        due("the other's comes with a day", x.told(1, 7), 0);
        x.days(2);
        due("of one day", x.told(0, 7), 40);
        due("of the other", x.told(1, 7), 56);
        x.home(0, 0, 5);
        due("it stays till the next", x.told(0, 7), 40);
        x.days(1);
        due("it does not outlast it", x.told(0, 7), 0);
    }

    static void p4_worksDoneSinceTheLatestYear() {
        sentence("12 works done since the latest year()");
        AlpCommune x = Communes.withHouses(1);
        x.work(0, 4);
        due("ahead of any", x.told(0, 12), 4);
        x.year();
        due("behind it", x.told(0, 12), 0);
        x.work(0, 3);
        live(x, 360);
        due("a year goes by", x.told(0, 12), 3);
        x.year();
        due("behind it", x.told(0, 12), 0);
    }

    static void p5_allTogether() {
        sentence("HAY of all HOUSES is COUNTED: all together.");
        AlpCommune x = new AlpCommune();
        due("no house", x.counts(), 0);
        for (int h = 0; h < 10; h++) x.house(1, 1, 0, 99999);
        due("counted at first", x.told(9, 9), 0);
        due("as much as there can be", x.counts(), 999990);
        due("of the last", x.told(9, 9), 99999);
        for (int h = 0; h < 10; h++) x.change(h, 3, 0);
        due("COUNTED ahead of it", x.told(0, 9), 99999);
        due("none", x.counts(), 0);
        due("COUNTED", x.told(0, 9), 0);
    }
}
