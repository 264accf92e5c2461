/** Boundary cases of "==== 1" (rights) and promises 6 to 12, a test for each sentence. */
public final class BoundsRightsTest extends Check {
    private static final int[] BY_HAND = {0, 1, 2, 3, 5};

    public static void main(String[] args) throws IllegalAccessException {
        runSentences(BoundsRightsTest.class);
    }

    /** Two houses and fifty rights: 0 a RIGHT, 1 a COW that is lent till 9, the others COWS of house 0 with 5 PARTS. */
    private static AlpCommune fifty() {
        AlpCommune x = Communes.withHouses(2);
        x.right(0, 0, 5);
        for (int r = 1; r < 50; r++) x.right(0, 1, 5);
        x.lend(1, 1, 9);
        return x;
    }

    /** A right of a kind with 5 PARTS, of house 0 of two: a HALF comes of a COW's splitting, and is 1 then. */
    private static AlpCommune withKind(int kind) {
        AlpCommune x = Communes.withHouses(2);
        x.right(0, kind == 4 ? 1 : kind, kind == 4 ? 9 : 5);
        if (kind == 4) x.split(0, 5);
        return x;
    }

    private static int rightOfKind(int kind) {
        return kind == 4 ? 1 : 0;
    }

    static void t1_rights0_49() {
        sentence("RIGHTS 0 .. 49, as they come, each with an OWNER (a HOUSE)");
        AlpCommune x = Communes.withHouses(1);
        for (int r = 0; r < 49; r++) due("right " + r, x.right(0, 1, 2), r);
        due("the last", x.split(0, 1), 49);
        due("its OWNER", x.rightOf(49, 1), 0);
        due("right 50", x.rightOf(50, 1), -5);
        refused("a 51st", -4, BoundsRightsTest::fifty, y -> y.right(0, 1, 1));
        refused("a 51st by splitting", -4, BoundsRightsTest::fifty, y -> y.split(2, 1));
    }

    static void t1_parts1_999() {
        sentence("PARTS (1 .. 999; 0 once it was joined to another one)");
        for (int kind : BY_HAND) {
            AlpCommune x = Communes.withHouses(1);
            due("1 of kind " + kind, x.right(0, kind, 1), 0);
            due("999 of kind " + kind, x.right(0, kind, 999), 1);
            due("PARTS", x.rightOf(0, 2), 1);
            due("PARTS", x.rightOf(1, 2), 999);
            for (int parts : outside(1, 999)) refused(parts + " of kind " + kind, -2, Communes::valley, y -> y.right(0, kind, parts));
        }
    }

    static void t1_0OnceItWasJoinedToAnotherOne() {
        sentence("0 once it was joined to another one");
        AlpCommune x = Communes.withHouses(2);
        x.right(0, 1, 1);
        x.right(0, 1, 999);
        due("join", x.join(0, 1), 1000);
        due("PARTS", x.rightOf(0, 2), 0);
        due("it is one of those that are", x.count(1), 2);
        due("its KIND", x.rightOf(0, 0), 1);
        due("it can be left", x.leave(0, 1), 0);
        due("it can be lent", x.lend(0, 0, 5), 1);
        due("PARTS", x.parts(0, 0), 1000);
    }

    static void t1_rightAndStrangeAreOfNone() {
        sentence("COMMONS: 0 the ALPS (of COW, HALF), 1 the WOODS (of WOOD), 2 the WATER (of HOUR); RIGHT and STRANGE are of none.");
        int[] commons = {-1, 0, 1, 2, 0, -1};
        for (int kind = 0; kind < 6; kind++) {
            AlpCommune x = withKind(kind);
            due("KIND", x.rightOf(rightOfKind(kind), 0), kind);
            due("common of kind " + kind, x.rightOf(rightOfKind(kind), 4), commons[kind]);
            for (int common = 0; common < 3; common++) {
                int all = commons[kind] != common ? 0 : kind == 4 ? 9 : 5;
                due("WHOLE of " + common + " with kind " + kind, x.parts(-1, common), all);
                due("PARTS of " + common + " with kind " + kind, x.parts(0, common), all);
            }
        }
    }

    static void t1_tillAheadOfADay() {
        sentence("It may be LENT to a HOUSE till ahead of a DAY; HELD by that HOUSE till then, else by its OWNER.");
        AlpCommune x = Communes.withHouses(2);
        x.right(0, 1, 8);
        due("HELD by its OWNER", x.rightOf(0, 3), 0);
        x.lend(0, 1, 4);
        for (int day = 0; day < 7; day++) {
            due("HELD on " + day, x.rightOf(0, 3), day < 4 ? 1 : 0);
            due("LENT on " + day, x.rightOf(0, 5), day < 4 ? 4 : -1);
            due("PARTS that 1 HOLDS on " + day, x.parts(1, 0), day < 4 ? 8 : 0);
            due("OWNER on " + day, x.rightOf(0, 1), 0);
            x.days(1);
        }
    }

    static void t1_splittingJoiningLendingAndLeavingKeepIt() {
        sentence("A COMMON's WHOLE: PARTS of all its RIGHTS together (as they were told by hand; splitting, joining, lending and leaving keep it).");
        AlpCommune x = Communes.withHouses(2);
        for (int r = 0; r < 49; r++) x.right(0, 3, 999);
        due("WHOLE", x.parts(-1, 2), 48951);
        due("split", x.split(0, 998), 49);
        due("WHOLE", x.parts(-1, 2), 48951);
        for (int r = 0; r < 49; r++) x.join(r, 49);
        due("WHOLE", x.parts(-1, 2), 48951);
        due("all in one", x.rightOf(49, 2), 48951);
        x.lend(49, 1, 3);
        due("WHOLE", x.parts(-1, 2), 48951);
        due("PARTS of who has it", x.parts(1, 2), 48951);
        x.leave(49, 1);
        due("WHOLE", x.parts(-1, 2), 48951);
        AlpCommune most = Communes.withHouses(1);
        for (int r = 0; r < 50; r++) most.right(0, 2, 999);
        due("as many as there can be", most.parts(-1, 1), 49950);
    }

    static void p6_aKindButHalf() {
        sentence("A RIGHT of a KIND but HALF: its number.");
        for (int kind : BY_HAND) {
            AlpCommune x = Communes.withHouses(1);
            due("kind " + kind, x.right(0, kind, 7), 0);
            due("is", x.rightOf(0, 0), kind);
        }
        refused("HALF", -2, Communes::valley, x -> x.right(0, 4, 7));
        for (int kind : outside(0, 5)) refused("kind " + kind, -2, Communes::valley, x -> x.right(0, kind, 7));
    }

    static void p6_noneHouseBadFull() {
        sentence("NONE: house; BAD; FULL.");
        for (int h : outside(0, 2)) refused("house " + h, -1, Communes::valley, x -> x.right(h, 1, 1));
        refused("NONE and BAD", -1, Communes::valley, x -> x.right(3, 4, 1));
        refused("NONE and BAD", -1, Communes::valley, x -> x.right(-1, 1, 0));
        refused("NONE and FULL", -1, BoundsRightsTest::fifty, x -> x.right(2, 1, 1));
        refused("BAD and FULL", -2, BoundsRightsTest::fifty, x -> x.right(0, 4, 1));
        refused("BAD and FULL", -2, BoundsRightsTest::fifty, x -> x.right(0, 1, 1000));
        refused("FULL", -4, BoundsRightsTest::fifty, x -> x.right(0, 1, 1));
    }

    static void p7_fewerThanItHas() {
        sentence("n PARTS (fewer than it has) of a RIGHT of the COMMONS become one of their own");
        for (int kind = 1; kind < 5; kind++) {
            int k = kind, r = rightOfKind(kind);
            AlpCommune x = withKind(kind);
            int next = x.count(1);
            due("4 of 5", x.split(r, 4), next);
            due("PARTS that are left", x.rightOf(r, 2), 1);
            due("PARTS", x.rightOf(next, 2), 4);
            due("1 of 1", x.split(r, 1), -2);
            due("1 of 4", x.split(next, 1), next + 1);
            for (int n : outside(1, 4)) refused(n + " of 5, kind " + kind, -2, () -> withKind(k), y -> y.split(r, n));
        }
        refused("0 of one that was joined", -2, Communes::valley, x -> x.split(8, 0));
        refused("1 of one that was joined", -2, Communes::valley, x -> x.split(8, 1));
    }

    static void p7_aHalfOfACowOrHalfElseOfItsKind() {
        sentence("(a HALF of a COW or HALF, else of its KIND)");
        int[] of = {0, 4, 2, 3, 4};
        for (int kind = 1; kind < 5; kind++) {
            AlpCommune x = withKind(kind);
            int next = x.split(rightOfKind(kind), 2);
            due("KIND of one of " + kind, x.rightOf(next, 0), of[kind]);
            due("KIND of what is left", x.rightOf(rightOfKind(kind), 0), kind);
        }
    }

    static void p7_ofTheSameOwnerNotLent() {
        sentence("of the same OWNER, not LENT: its number.");
        AlpCommune x = Communes.withHouses(2);
        x.right(1, 1, 9);
        x.lend(0, 0, 2);
        x.days(2);
        due("split", x.split(0, 3), 1);
        due("OWNER", x.rightOf(1, 1), 1);
        due("who HOLDS it", x.rightOf(1, 3), 1);
        due("LENT", x.rightOf(1, 5), -1);
        due("it can be lent", x.lend(1, 0, 5), 1);
        due("what is left is not LENT for it", x.rightOf(0, 5), -1);
    }

    static void p7_itIsOfNoCommon() {
        sentence("STATE: it is of no COMMON");
        for (int kind : new int[] {0, 5}) refused("kind " + kind, -3, () -> withKind(kind), x -> x.split(0, 4));
        for (int kind : new int[] {1, 2, 3}) due("kind " + kind, withKind(kind).split(0, 4), 1);
        due("kind 4", withKind(4).split(1, 4), 2);
    }

    /** COW 0 of house 0, with 5 PARTS, that is LENT to 1 till ahead of day 3; on a day. */
    private static AlpCommune lentTill3(int day) {
        AlpCommune x = withKind(1);
        x.right(0, 1, 5);
        x.lend(0, 1, 3);
        if (day > 0) x.days(day);
        return x;
    }

    static void p7_orLentNow() {
        sentence("or LENT now; FULL.");
        refused("LENT on 0", -3, () -> lentTill3(0), x -> x.split(0, 1));
        refused("LENT on 2", -3, () -> lentTill3(2), x -> x.split(0, 1));
        due("on 3", lentTill3(3).split(0, 1), 2);
    }

    static void p7_noneBadStateItIsOfNoCommonOrLentNowFull() {
        sentence("NONE; BAD; STATE: it is of no COMMON, or LENT now; FULL.");
        for (int r : outside(0, 8)) refused("right " + r, -1, Communes::valley, x -> x.split(r, 1));
        refused("NONE and BAD", -1, Communes::valley, x -> x.split(9, 0));
        refused("NONE and FULL", -1, BoundsRightsTest::fifty, x -> x.split(50, 1));
        refused("BAD and STATE, of no COMMON", -2, Communes::valley, x -> x.split(5, 7));
        refused("BAD and STATE, LENT", -2, Communes::valley, x -> x.split(4, 2));
        refused("BAD and FULL", -2, BoundsRightsTest::fifty, x -> x.split(2, 5));
        refused("STATE, of no COMMON, and FULL", -3, BoundsRightsTest::fifty, x -> x.split(0, 1));
        refused("STATE, LENT, and FULL", -3, BoundsRightsTest::fifty, x -> x.split(1, 1));
        refused("FULL", -4, BoundsRightsTest::fifty, x -> x.split(2, 4));
    }

    static void p8_above999Too() {
        sentence("PARTS of a RIGHT come to another one of the same COMMON and OWNER (it has 0 then): how many that has (above 999, too).");
        AlpCommune x = Communes.withHouses(1);
        x.right(0, 2, 500);
        x.right(0, 2, 499);
        x.right(0, 2, 1);
        due("999", x.join(0, 1), 999);
        due("1000", x.join(2, 1), 1000);
        due("PARTS", x.rightOf(1, 2), 1000);
        due("it has 0", x.rightOf(2, 2), 0);
        AlpCommune most = Communes.withHouses(1);
        for (int r = 0; r < 50; r++) most.right(0, 1, 999);
        for (int r = 1; r < 50; r++) due("join " + r, most.join(r, 0), 999 * (r + 1));
        due("as many as there can be", most.rightOf(0, 2), 49950);
    }

    static void p8_badTheyAreOne() {
        sentence("NONE; BAD: they are one; STATE");
        refused("they are one", -2, Communes::valley, x -> x.join(0, 0));
        refused("BAD and STATE, of no COMMON", -2, Communes::valley, x -> x.join(5, 5));
        refused("BAD and STATE, LENT", -2, Communes::valley, x -> x.join(4, 4));
        refused("BAD and STATE, it has 0", -2, Communes::valley, x -> x.join(8, 8));
        for (int r : outside(0, 8)) {
            refused("right " + r, -1, Communes::valley, x -> x.join(r, 0));
            refused("other " + r, -1, Communes::valley, x -> x.join(0, r));
            refused("NONE and BAD " + r, -1, Communes::valley, x -> x.join(r, r));
            refused("NONE and STATE " + r, -1, Communes::valley, x -> x.join(5, r));
        }
    }

    static void p8_bothOfNoCommonToo() {
        sentence("STATE: not as told (both of no COMMON, too)");
        AlpCommune x = Communes.valley();
        due("same COMMON and OWNER, a COW to a HALF", x.join(0, 7), 60);
        refused("another OWNER", -3, Communes::valley, y -> y.join(0, 1));
        refused("another COMMON", -3, Communes::valley, y -> y.join(0, 3));
        refused("one of no COMMON", -3, Communes::valley, y -> y.join(0, 6));
        refused("the other of no COMMON", -3, Communes::valley, y -> y.join(6, 0));
        for (int kind : new int[] {0, 5}) {
            for (int other : new int[] {0, 5}) refused("both of no COMMON", -3, () -> ofNoCommon(kind, other), y -> y.join(0, 1));
        }
    }

    private static AlpCommune ofNoCommon(int kind, int other) {
        AlpCommune x = withKind(kind);
        x.right(0, other, 5);
        return x;
    }

    static void p8_orEitherIsLentNow() {
        sentence("or either is LENT now, or has 0.");
        refused("it is LENT", -3, () -> lentTill3(2), x -> x.join(0, 1));
        refused("the other is LENT", -3, () -> lentTill3(2), x -> x.join(1, 0));
        due("LENT no more", lentTill3(3).join(0, 1), 10);
        due("LENT no more", lentTill3(3).join(1, 0), 10);
    }

    static void p8_orHas0() {
        sentence("or has 0.");
        refused("it has 0", -3, Communes::valley, x -> x.join(8, 2));
        refused("the other has 0", -3, Communes::valley, x -> x.join(2, 8));
        AlpCommune x = Communes.withHouses(1);
        x.right(0, 1, 1);
        x.right(0, 1, 1);
        due("each has 1", x.join(0, 1), 2);
    }

    static void p9_tillAheadOfADay() {
        sentence("A RIGHT is LENT to a HOUSE till ahead of a DAY: 1.");
        AlpCommune x = withKind(1);
        due("for a day", x.lend(0, 1, 1), 1);
        due("who HOLDS it on 0", x.rightOf(0, 3), 1);
        x.days(1);
        due("who HOLDS it on 1", x.rightOf(0, 3), 0);
        due("for two days", x.lend(0, 1, 3), 1);
        x.days(1);
        due("who HOLDS it on 2", x.rightOf(0, 3), 1);
        x.days(1);
        due("who HOLDS it on 3", x.rightOf(0, 3), 0);
    }

    static void p9_theDayIsNotBehindNowOrAbove7199() {
        sentence("BAD: the DAY is not behind now, or above 7199");
        for (int day : new int[] {LEAST, -1, 0, 151, 152, 7200, MOST}) refused("day " + day, -2, Communes::valley, x -> x.lend(0, 1, day));
        for (int day : new int[] {153, 7199}) {
            AlpCommune x = Communes.valley();
            due("day " + day, x.lend(0, 1, day), 1);
            due("till", x.rightOf(0, 5), day);
        }
        AlpCommune last = withKind(1);
        live(last, 7198);
        due("till ahead of the last day", last.lend(0, 1, 7199), 1);
        last.days(1);
        due("LENT no more", last.rightOf(0, 3), 0);
        due("no day is left", last.lend(0, 1, 7199), -2);
        due("no day is left", last.lend(0, 1, 7200), -2);
    }

    static void p9_stateItIsLentNow() {
        sentence("STATE: it is LENT now, or that is its OWNER, or it is STRANGE.");
        refused("LENT", -3, () -> lentTill3(2), x -> x.lend(0, 1, 9));
        due("LENT no more", lentTill3(3).lend(0, 1, 9), 1);
    }

    static void p9_orThatIsItsOwner() {
        sentence("or that is its OWNER");
        refused("its OWNER", -3, Communes::valley, x -> x.lend(0, 0, 200));
        due("another one", Communes.valley().lend(0, 1, 200), 1);
        AlpCommune x = Communes.valley();
        x.leave(0, 2);
        due("its OWNER now", x.lend(0, 2, 200), -3);
        due("whose it was", x.lend(0, 0, 200), 1);
    }

    static void p9_orItIsStrange() {
        sentence("or it is STRANGE.");
        for (int kind = 0; kind < 5; kind++) due("kind " + kind, withKind(kind).lend(rightOfKind(kind), 1, 9), 1);
        refused("STRANGE", -3, () -> withKind(5), x -> x.lend(0, 1, 9));
    }

    static void p9_noneBadTheDay() {
        sentence("NONE; BAD: the DAY is not behind now");
        for (int r : outside(0, 8)) refused("right " + r, -1, Communes::valley, x -> x.lend(r, 1, 200));
        for (int h : outside(0, 2)) refused("house " + h, -1, Communes::valley, x -> x.lend(0, h, 200));
        refused("NONE and BAD", -1, Communes::valley, x -> x.lend(9, 1, 152));
        refused("NONE and BAD", -1, Communes::valley, x -> x.lend(0, 3, 7200));
        refused("NONE and STATE", -1, Communes::valley, x -> x.lend(5, 3, 200));
        refused("BAD and STATE, LENT", -2, Communes::valley, x -> x.lend(4, 1, 152));
        refused("BAD and STATE, its OWNER", -2, Communes::valley, x -> x.lend(0, 0, 7200));
        refused("BAD and STATE, STRANGE", -2, Communes::valley, x -> x.lend(5, 1, 152));
    }

    static void p10_lentItStays() {
        sentence("A RIGHT is left to a HOUSE (LENT it stays): whose it was.");
        AlpCommune x = lentTill3(2);
        due("whose it was", x.leave(0, 1), 0);
        due("its OWNER", x.rightOf(0, 1), 1);
        due("LENT it stays", x.rightOf(0, 5), 3);
        due("whose it was, itself", x.leave(0, 1), 1);
        x.leave(0, 0);
        due("HELD by whom it is LENT to", x.rightOf(0, 3), 1);
        x.leave(0, 1);
        x.days(1);
        due("LENT no more", x.rightOf(0, 5), -1);
        due("HELD by its OWNER", x.rightOf(0, 3), 1);
    }

    static void p10_noneStateItIsStrange() {
        sentence("NONE; STATE: it is STRANGE.");
        for (int r : outside(0, 8)) refused("right " + r, -1, Communes::valley, x -> x.leave(r, 1));
        for (int h : outside(0, 2)) refused("house " + h, -1, Communes::valley, x -> x.leave(0, h));
        refused("NONE and STATE", -1, Communes::valley, x -> x.leave(5, 3));
        refused("STRANGE", -3, Communes::valley, x -> x.leave(5, 1));
        refused("STRANGE, to its OWNER", -3, Communes::valley, x -> x.leave(5, 2));
        for (int kind = 0; kind < 5; kind++) due("kind " + kind, withKind(kind).leave(rightOfKind(kind), 1), 0);
    }

    static void p11_5NoneSuch() {
        sentence("-5: none such.");
        AlpCommune x = Communes.valley();
        for (int r : outside(0, 8)) due("right " + r, x.rightOf(r, 0), -5);
        for (int what : outside(0, 5)) due("what " + what, x.rightOf(0, what), -5);
        due("the last right", x.rightOf(8, 0), 2);
        due("the last what", x.rightOf(4, 5), 160);
        due("both", x.rightOf(9, 6), -5);
    }

    static void p11_itsCommon1() {
        sentence("4 its COMMON (-1), 5 till ahead of which DAY it is LENT (-1: not now).");
        AlpCommune x = Communes.valley();
        int[] commons = {0, 0, 1, 2, 2, -1, -1, 0, 1};
        for (int r = 0; r < 9; r++) {
            due("COMMON of " + r, x.rightOf(r, 4), commons[r]);
            due("LENT, " + r, x.rightOf(r, 5), r == 4 ? 160 : -1);
        }
        x.days(7);
        due("LENT on 159", x.rightOf(4, 5), 160);
        x.days(1);
        due("LENT on 160", x.rightOf(4, 5), -1);
    }

    static void p12_house1TheWhole() {
        sentence("PARTS of a COMMON that a HOUSE HOLDS now; house -1: the WHOLE. NONE.");
        AlpCommune x = Communes.valley();
        int[][] parts = {{84, 9, 5}, {60, 0, 5}, {24, 9, 0}, {0, 0, 0}};
        for (int h = -1; h < 3; h++) for (int common = 0; common < 3; common++) {
            due("parts(" + h + ", " + common + ")", x.parts(h, common), parts[h + 1][common]);
        }
        for (int h : outside(-1, 2)) due("house " + h, x.parts(h, 0), -1);
        for (int common : outside(0, 2)) {
            due("COMMON " + common, x.parts(0, common), -1);
            due("WHOLE of " + common, x.parts(-1, common), -1);
        }
        due("both", x.parts(3, 3), -1);
        due("no house at all, the WHOLE", new AlpCommune().parts(-1, 2), 0);
        due("no house at all", new AlpCommune().parts(0, 2), -1);
    }
}
