/** Boundary cases of "==== 6" (acts, sheets), promises 42 to 49, and of the answers; a test for each sentence. */
public final class BoundsActsTest extends Check {
    public static void main(String[] args) throws IllegalAccessException {
        runSentences(BoundsActsTest.class);
    }

    /** Rights 0 RIGHT, 1 COW, 2 WOOD, 3 HOUR, 4 STRANGE, 5 HALF, with PARTS 10, 20, 30, 40, 50, 5. */
    private static AlpCommune kinds() {
        AlpCommune x = Communes.withHouses(1);
        int[] kinds = {0, 1, 2, 3, 5}, parts = {10, 25, 30, 40, 50};
        for (int i = 0; i < 5; i++) x.right(0, kinds[i], parts[i]);
        x.split(1, 5);
        return x;
    }

    private static void act(String call, AlpCommune x, int right, int act, int v, int due, int... bodies) {
        due(call, x.act(right, act, v), due);
        due(call + ", bodies", x.count(14), bodies.length);
        for (int i = 0; i < bodies.length; i++) due(call + ", body " + i, x.trace(i), bodies[i]);
        due(call + ", no more", x.trace(bodies.length), -1);
    }

    static void t6_actsOfRightsWithXWrapping() {
        sentence("ACTS of RIGHTS, with x (wrapping): 0 holds, 1 owes, 2 passes");
        AlpCommune x = kinds();
        // x + q
        act("RIGHT holds", x, 0, 0, MOST - 10, MOST, 10);
        act("RIGHT holds, beyond", x, 0, 0, MOST - 9, LEAST, 10);
        act("RIGHT holds, the most", x, 0, 0, MOST, LEAST + 9, 10);
        act("RIGHT holds, the least", x, 0, 0, LEAST, LEAST + 10, 10);
        // holds(x) * 2
        act("RIGHT owes", x, 0, 1, (1 << 30) - 11, MOST - 1, 11, 10);
        act("RIGHT owes, beyond", x, 0, 1, (1 << 30) - 10, LEAST, 11, 10);
        act("RIGHT owes, the least", x, 0, 1, LEAST, 20, 11, 10);
        // owes(x) ^ holds(x - m), m 0
        act("RIGHT passes, the most", x, 0, 2, MOST, 18 ^ (LEAST + 9), 12, 11, 10, 10);
        // + m, m 1
        act("COW owes", x, 1, 1, (1 << 30) - 21, MOST, 20, 11, 10);
        act("COW owes, beyond", x, 1, 1, (1 << 30) - 20, LEAST + 1, 20, 11, 10);
        act("COW passes, the least", x, 1, 2, LEAST, 41 ^ (MOST + 20), 12, 20, 11, 10, 10);
        // * 3, m 2, q 30
        act("WOOD holds", x, 2, 0, 715827882 - 30, 715827882 * 3, 30, 10);
        act("WOOD holds, beyond", x, 2, 0, 715827883 - 30, -2147483647, 30, 10);
        act("WOOD holds, the most", x, 2, 0, MOST, (LEAST + 29) * 3, 30, 10);
        // x + 1, m 3, q 40
        act("HOUR passes, the most", x, 3, 2, MOST, (LEAST + 40) * 2 ^ (LEAST + 37), 40, 12, 11, 10, 10);
        // - 7, m 4, q 50
        act("STRANGE holds", x, 4, 0, LEAST, LEAST + 43, 60, 10);
        act("STRANGE holds, beyond", x, 4, 0, LEAST - 50, MOST - 6, 60, 10);
        act("STRANGE owes", x, 4, 1, 0, 86, 11, 60, 10);
        // ^ 5, - q, m 5, q 5
        act("HALF holds", x, 5, 0, -5, 5, 50, 10);
        act("HALF owes", x, 5, 1, -5, 10, 51, 20, 11, 50, 10);
        act("HALF owes, beyond", x, 5, 1, (1 << 30) - 5, -2147483638, 51, 20, 11, 50, 10);
        act("HALF passes", x, 5, 2, 0, 0 ^ (0 ^ 5), 12, 51, 20, 11, 50, 10, 50, 10);
    }

    /** No act runs more than eight bodies, so that all are kept: 20 can't be come to. */
    static void t6_theFirst20AreKept() {
        sentence("THE TRACE: the numbers of the bodies that ran in the latest act(), in the order in which they began; the first 20 are kept.");
        AlpCommune x = kinds();
        act("the longest", x, 5, 2, 7, ((12 ^ 5) * 2 + 5 - 5) ^ (7 ^ 5), 12, 51, 20, 11, 50, 10, 50, 10);
        for (int i = 8; i < 22; i++) due("no body " + i, x.trace(i), -1);
        act("the latest alone", x, 0, 0, 0, 10, 10);
        due("a body of an earlier one", x.trace(1), -1);
    }

    static void t6_ofTheNextKindAboveThatHasOne() {
        sentence("the body of the RIGHT's KIND, or, if that has none, of the next KIND above that has one; super.holds(..): so from the KIND above the body's on.");
        AlpCommune x = kinds();
        int[][][] bodies = {
            {{10}, {11, 10}, {12, 11, 10, 10}},
            {{10}, {20, 11, 10}, {12, 20, 11, 10, 10}},
            {{30, 10}, {11, 30, 10}, {12, 11, 30, 10, 30, 10}},
            {{10}, {11, 10}, {40, 12, 11, 10, 10}},
            {{60, 10}, {11, 60, 10}, {12, 11, 60, 10, 60, 10}},
            {{50, 10}, {51, 20, 11, 50, 10}, {12, 51, 20, 11, 50, 10, 50, 10}}};
        int[][] answers = {
            {11, 22, 22 ^ 11},
            {21, 43, 43 ^ 20},
            {93, 186, 186 ^ 87},
            {41, 82, 84 ^ 39},
            {44, 88, 88 ^ 40},
            {6 ^ 5, 6, 6 ^ (1 ^ 5)}};
        for (int right = 0; right < 6; right++) {
            for (int act = 0; act < 3; act++) act("act(" + right + ", " + act + ", 1)", x, right, act, 1, answers[right][act], bodies[right][act]);
        }
    }

    static void p42_0AndNoTraceThen() {
        sentence("An ACT of a RIGHT with x. 0, and no TRACE then: no such RIGHT, act.");
        for (int right : outside(0, 5)) {
            AlpCommune x = kinds();
            x.act(5, 2, 1);
            act("right " + right, x, right, 0, 5, 0);
        }
        for (int act : outside(0, 2)) {
            AlpCommune x = kinds();
            x.act(5, 2, 1);
            act("act " + act, x, 0, act, 5, 0);
        }
        act("both", kinds(), 6, 3, 5, 0);
        act("the last right, the last act", kinds(), 5, 2, 1, 6 ^ 4, 12, 51, 20, 11, 50, 10, 50, 10);
        act("no right", new AlpCommune(), 0, 0, 5, 0);
    }

    static void p43_noneNoneSuch() {
        sentence("THE TRACE's i-th body. NONE: none such.");
        AlpCommune x = kinds();
        due("none at first", x.trace(0), -1);
        x.act(1, 1, 0);
        for (int i : outside(0, 2)) due("body " + i, x.trace(i), -1);
        int[] bodies = {20, 11, 10};
        for (int i = 0; i < 3; i++) due("body " + i, x.trace(i), bodies[i]);
        for (int i : new int[] {19, 20, 21}) due("body " + i, x.trace(i), -1);
    }

    static void p44_badK11NoSuchRight13() {
        sentence("A RIGHT taken for one of KIND k (0 .. 5), or one under that (also by others between): its KIND. BAD: k; -11: no such RIGHT; -13.");
        AlpCommune x = kinds();
        int[] kinds = {0, 1, 2, 3, 5, 4};
        int[][] takenFor = {{0}, {0, 1}, {0, 2}, {0, 3}, {0, 5}, {0, 1, 4}};
        for (int right = 0; right < 6; right++) {
            for (int k = 0; k < 6; k++) {
                boolean is = false;
                for (int each : takenFor[right]) is |= each == k;
                due("taken(" + right + ", " + k + ")", x.taken(right, k), is ? kinds[right] : -13);
            }
        }
        for (int k : outside(0, 5)) {
            due("k " + k, x.taken(0, k), -2);
            due("BAD and no such RIGHT, k " + k, x.taken(6, k), -2);
        }
        for (int right : outside(0, 5)) for (int k = 0; k < 6; k++) due("right " + right, x.taken(right, k), -11);
        due("no right", new AlpCommune().taken(0, 0), -11);
    }

    static void p45_bad() {
        sentence("14 bodies that ran in the latest act() (all, kept or not). BAD.");
        AlpCommune x = Communes.valley();
        int[] counts = {3, 9, 3, 152, 2, 2, 3, 0, 0, 0, 5, 0, 10, 1, 5};
        for (int what = 0; what < counts.length; what++) due("count(" + what + ")", x.count(what), counts[what]);
        for (int what : outside(0, 14)) due("count(" + what + ")", x.count(what), -2);
    }

    static void p45_7Slides8ThatWereMissed9DaysShutInVain() {
        sentence("7 SLIDES, 8 that were MISSED, 9 days SHUT in vain");
        AlpCommune x = new AlpCommune();
        x.slope(0);
        Communes.live(x, new int[] {0, 9}, new int[] {-9, 40});
        x.shut(true);
        Communes.live(x, new int[] {0, 9}, new int[] {-9, 40}, new int[] {5, 0}, new int[] {5, 0});
        int[] counts = {2, 1, 3};
        for (int i = 0; i < 3; i++) due("count(" + (7 + i) + ")", x.count(7 + i), counts[i]);
    }

    static void p45_13WhetherTheWayIsShut() {
        sentence("13 whether THE WAY is SHUT");
        AlpCommune x = new AlpCommune();
        due("at first", x.count(13), 0);
        x.shut(true);
        due("SHUT", x.count(13), 1);
        x.shut(false);
        due("not SHUT", x.count(13), 0);
    }

    static void p45_6DrivesAlsoThoseThatAreNotKept() {
        sentence("6 DRIVES (also those that are not kept)");
        AlpCommune x = Communes.free(99);
        x.alp(0, 9);
        for (int i = 0; i < 99; i++) x.drive(0, 0, 1);
        x.home(0, 0, 99);
        for (int i = 0; i < 99; i++) x.drive(0, 0, 1);
        x.home(0, 0, 99);
        due("198", x.count(6), 198);
        x.drive(0, 0, 1);
        x.drive(0, 0, 1);
        due("200", x.count(6), 200);
        due("one that isn't", x.drive(0, 0, 98), -21);
        x.drive(0, 0, 1);
        due("201", x.count(6), 201);
        x.drive(0, 0, 1);
        due("202", x.count(6), 202);
        due("the 200th", x.book(199, 3), 1);
        due("the 201st", x.book(200, 3), -5);
    }

    // ---- sheets

    /** Sheets 0 and 1 of a sort with three and five items, of floats 1, 2, 3 and 10, .., 14; sheet 2 is missing. */
    private static AlpCommune twoSheets(int sort) {
        AlpCommune x = Communes.withHouses(1);
        x.sheet(0, sort, 3);
        x.sheet(1, sort, 5);
        for (int i = 0; i < 3; i++) x.cell(0, i, 4 * (i + 1));
        for (int i = 0; i < 5; i++) x.cell(1, i, 4 * (i + 10));
        return x;
    }

    /** The items of a sheet of floats, as WARM; 99 is no number. */
    private static void items(String what, AlpCommune x, int sheet, int... items) {
        for (int i = 0; i < items.length; i++) {
            x.weather(5000, 0, -39);
            due(what + ", item " + i + " is one", x.sky(5000, 0, sheet, i, 1), items[i] == 99 ? 0 : 1);
            if (items[i] != 99) due(what + ", item " + i, x.skyOf(5000, 0), items[i]);
        }
        due(what + ", no more", x.lose(sheet, items.length), -12);
    }

    static void t6_sheets0_2() {
        sentence("SHEETS 0 .. 2 are rows of numbers, or missing (as all are at first)");
        AlpCommune x = new AlpCommune();
        for (int s = 0; s < 3; s++) {
            due("missing at first " + s, x.cell(s, 0, 0), -11);
            due("sheet " + s, x.sheet(s, 2, 1 + s), 1);
            due("its last item", x.cell(s, s, 4), 1);
            due("no more", x.cell(s, s + 1, 4), -12);
        }
        due("sheet 3", x.sheet(3, 2, 1), -2);
    }

    static void t6_ofSort0Bytes1Shorts2Floats() {
        sentence("of sort 0 bytes, 1 shorts, 2 floats (some may be no number).");
        for (int sort = 0; sort < 3; sort++) {
            AlpCommune x = twoSheets(sort);
            due("lose, sort " + sort, x.lose(0, 0), sort == 2 ? 1 : -13);
            due("sky, sort " + sort, x.sky(0, 0, 0, 0, 1), sort == 2 ? 0 : -13);
            for (int other = 0; other < 3; other++) {
                x.sheet(2, other, 1);
                due("copy of " + sort + " to " + other, x.copy(0, 0, 2, 0, 1), sort == other ? 1 : -13);
            }
        }
    }

    static void p46_all0OrMissing() {
        sentence("A SHEET becomes a row of n of a sort, all 0, or missing (sort -1: n does not matter): 1.");
        AlpCommune x = twoSheets(2);
        due("anew", x.sheet(0, 2, 4), 1);
        items("all 0", x, 0, 0, 0, 0, 0);
        for (int n : new int[] {LEAST, -1, 0, 60, 61, MOST}) {
            due("missing, n " + n, x.sheet(1, -1, n), 1);
            due("it is missing", x.cell(1, 0, 0), -11);
            due("it comes again", x.sheet(1, 2, 2), 1);
            items("all 0", x, 1, 0, 0);
        }
    }

    static void p46_badNoSuchSheetSortNAbove60() {
        sentence("BAD: no such SHEET, sort; n above 60; -14: n below 0.");
        for (int s : outside(0, 2)) {
            refused("sheet " + s, -2, Communes::valley, x -> x.sheet(s, 2, 5));
            refused("sheet " + s + ", missing", -2, Communes::valley, x -> x.sheet(s, -1, 5));
            refused("BAD and -14, sheet " + s, -2, Communes::valley, x -> x.sheet(s, 2, -1));
        }
        for (int sort : outside(-1, 2)) {
            refused("sort " + sort, -2, Communes::valley, x -> x.sheet(0, sort, 5));
            refused("BAD and -14, sort " + sort, -2, Communes::valley, x -> x.sheet(0, sort, -1));
        }
        for (int sort = 0; sort < 3; sort++) {
            int s = sort;
            for (int n : new int[] {61, MOST}) refused("n " + n, -2, Communes::valley, x -> x.sheet(0, s, n));
            for (int n : new int[] {LEAST, -1}) refused("n " + n, -14, Communes::valley, x -> x.sheet(0, s, n));
            AlpCommune x = Communes.valley();
            due("n 60", x.sheet(0, sort, 60), 1);
            due("the last item", x.cell(0, 59, 1), 1);
            due("no more", x.cell(0, 60, 1), -12);
            due("n 0", x.sheet(0, sort, 0), 1);
            due("no item", x.cell(0, 0, 1), -12);
        }
    }

    static void p47_ofFloatsVQuarters() {
        sentence("Item i of a SHEET becomes v (of bytes, shorts its lowest 8, 16 bits; of floats v quarters): 1.");
        AlpCommune x = twoSheets(2);
        int[] quarters = {7, 8, -7, 160, -160, 0, 3}, warm = {1, 2, -1, 40, -40, 0, 0};
        for (int i = 0; i < quarters.length; i++) {
            due("cell", x.cell(0, 2, quarters[i]), 1);
            items(quarters[i] + " quarters", x, 0, 1, 2, warm[i]);
        }
        for (int sort = 0; sort < 3; sort++) {
            for (int v : new int[] {LEAST, -129, -1, 0, 127, 128, 255, 256, 32767, 32768, 65536, MOST}) {
                due("sort " + sort + ", v " + v, twoSheets(sort).cell(1, 4, v), 1);
            }
        }
    }

    static void p47_badNoSuchSheet11ItIsMissing12NoSuchItem() {
        sentence("BAD: no such SHEET; -11: it is missing; -12: no such item.");
        for (int s : outside(0, 2)) refused("sheet " + s, -2, Communes::valley, x -> x.cell(s, 0, 5));
        refused("BAD, and no such item", -2, Communes::valley, x -> x.cell(3, -1, 5));
        refused("missing", -11, Communes::valley, x -> x.cell(2, 0, 5));
        refused("-11 and -12", -11, Communes::valley, x -> x.cell(2, -1, 5));
        for (int i : outside(0, 3)) refused("item " + i, -12, Communes::valley, x -> x.cell(0, i, 5));
        for (int i : outside(0, 2)) refused("item " + i + " of bytes", -12, Communes::valley, x -> x.cell(1, i, 5));
        AlpCommune x = Communes.valley();
        due("the last item", x.cell(0, 3, 5), 1);
        due("the first item", x.cell(0, 0, 5), 1);
    }

    static void p48_badNoSuchSheet1113ItIsOfAnotherSort12() {
        sentence("Item i of a SHEET of floats becomes no number: 1. BAD: no such SHEET; -11; -13: it is of another sort; -12.");
        for (int s : outside(0, 2)) refused("sheet " + s, -2, Communes::valley, x -> x.lose(s, 0));
        refused("BAD and -12", -2, Communes::valley, x -> x.lose(3, 4));
        refused("missing", -11, Communes::valley, x -> x.lose(2, 0));
        refused("-11 and -12", -11, Communes::valley, x -> x.lose(2, 4));
        refused("bytes", -13, () -> twoSheets(0), x -> x.lose(0, 0));
        refused("shorts", -13, () -> twoSheets(1), x -> x.lose(0, 0));
        refused("-13 and -12", -13, () -> twoSheets(0), x -> x.lose(0, 3));
        refused("-13 and -12", -13, () -> twoSheets(1), x -> x.lose(0, -1));
        for (int i : outside(0, 2)) refused("item " + i, -12, () -> twoSheets(2), x -> x.lose(0, i));
        AlpCommune x = twoSheets(2);
        due("the last item", x.lose(0, 2), 1);
        items("lost", x, 0, 1, 2, 99);
        due("the first item", x.lose(0, 0), 1);
        due("again", x.lose(0, 0), 1);
        items("lost", x, 0, 99, 2, 99);
        x.cell(0, 0, 12);
        items("found", x, 0, 3, 2, 99);
        due("none of none", emptySheet().lose(0, 0), -12);
    }

    private static AlpCommune emptySheet() {
        AlpCommune x = Communes.withHouses(1);
        x.sheet(0, 2, 0);
        return x;
    }

    static void p49_asTheyAllWereBefore() {
        sentence("n items of a SHEET from i on come to another SHEET (or the same) from j on, as they all were before: n.");
        AlpCommune x = twoSheets(2);
        due("all of 0", x.copy(0, 0, 1, 2, 3), 3);
        items("to 1", x, 1, 10, 11, 1, 2, 3);
        items("of 0", x, 0, 1, 2, 3);
        due("up within one", x.copy(1, 0, 1, 1, 4), 4);
        items("up", x, 1, 10, 10, 11, 1, 2);
        due("down within one", x.copy(1, 1, 1, 0, 4), 4);
        items("down", x, 1, 10, 11, 1, 2, 2);
        x.lose(0, 1);
        due("what is no number", x.copy(0, 1, 1, 4, 1), 1);
        items("what is no number", x, 1, 10, 11, 1, 2, 99);
        due("to where it is", x.copy(1, 0, 1, 0, 5), 5);
        items("to where it is", x, 1, 10, 11, 1, 2, 99);
    }

    static void p49_badNoSuchSheets11OneIsMissing13TheyAreNotOfOneSort() {
        sentence("BAD: no such SHEETS; -11: one is missing; -13: they are not of one sort; -12");
        for (int s : outside(0, 2)) {
            refused("sheet " + s, -2, Communes::valley, x -> x.copy(s, 0, 0, 0, 1));
            refused("other " + s, -2, Communes::valley, x -> x.copy(0, 0, s, 0, 1));
            refused("BAD and -11, " + s, -2, Communes::valley, x -> x.copy(2, 0, s, 0, 1));
            refused("BAD and -12, " + s, -2, Communes::valley, x -> x.copy(s, 0, 0, 0, -1));
        }
        refused("it is missing", -11, Communes::valley, x -> x.copy(2, 0, 0, 0, 1));
        refused("the other is missing", -11, Communes::valley, x -> x.copy(0, 0, 2, 0, 1));
        refused("both are, as they are one", -11, Communes::valley, x -> x.copy(2, 0, 2, 0, 1));
        refused("-11 and -12", -11, Communes::valley, x -> x.copy(0, 9, 2, 0, 1));
        refused("-11, n 0", -11, Communes::valley, x -> x.copy(0, 0, 2, 0, 0));
        refused("floats to bytes", -13, Communes::valley, x -> x.copy(0, 0, 1, 0, 1));
        refused("bytes to floats", -13, Communes::valley, x -> x.copy(1, 0, 0, 0, 1));
        refused("-13 and -12", -13, Communes::valley, x -> x.copy(0, 4, 1, 0, 1));
        refused("-13, n 0", -13, Communes::valley, x -> x.copy(0, 0, 1, 0, 0));
        refused("-13, n -1", -13, Communes::valley, x -> x.copy(0, 0, 1, 0, -1));
    }

    static void p49_12NIOrJIsBelow0OrBeyondEithersEnd() {
        sentence("-12: n, i or j is below 0, or beyond either's end.");
        for (int sort = 0; sort < 3; sort++) {
            int s = sort;
            int[][] no = {{0, 0, 4}, {1, 0, 3}, {3, 0, 1}, {0, 5, 1}, {0, 3, 3}, {0, 4, 2}, {-1, 0, 1}, {0, -1, 1}, {0, 0, -1}, {4, 0, 0},
                {0, 6, 0}, {-1, 0, 0}, {0, -1, 0}, {LEAST, 0, 1}, {0, LEAST, 1}, {0, 0, LEAST}, {MOST, 0, 1}, {0, MOST, 1}, {0, 0, MOST},
                {MOST, MOST, MOST}, {LEAST, LEAST, LEAST}, {1, 1, MOST}, {-1, 1, 2}, {3, 5, -1}, {LEAST, 0, MOST}, {MOST, 0, LEAST}};
            for (int[] each : no) {
                String call = each[2] + " from " + each[0] + " on to " + each[1];
                refused(call, -12, () -> twoSheets(s), x -> x.copy(0, each[0], 1, each[1], each[2]));
            }
            int[][] yes = {{0, 0, 3}, {0, 2, 3}, {1, 3, 2}, {2, 4, 1}, {3, 5, 0}, {0, 0, 0}, {3, 0, 0}, {0, 5, 0}};
            for (int[] each : yes) {
                String call = each[2] + " from " + each[0] + " on to " + each[1];
                due(call, twoSheets(s).copy(0, each[0], 1, each[1], each[2]), each[2]);
            }
            due("beyond the other's end", twoSheets(s).copy(1, 0, 0, 0, 4), -12);
            due("up to the other's end", twoSheets(s).copy(1, 2, 0, 0, 3), 3);
        }
    }

    // ---- the answers

    /** What each promise's refusals change is seen with them; here are those that stand for all, in one commune. */
    static void a_whatIsAnsweredSoChangesNothing() {
        sentence("Answers: NONE (-1) there is no such number; BAD (-2) a number is not as told; STATE (-3) as told; FULL (-4); "
            + "the first that a call's words name. What is answered so changes nothing.");
        due("NONE", AlpCommune.NONE, -1);
        due("BAD", AlpCommune.BAD, -2);
        due("STATE", AlpCommune.STATE, -3);
        due("FULL", AlpCommune.FULL, -4);
        AlpCommune x = Communes.valley();
        int[] refusals = {x.house(0, 1, 1, 1), x.change(3, 0, 1), x.right(3, 1, 1), x.split(5, 1), x.join(0, 1), x.lend(4, 1, 200),
            x.leave(5, 0), x.feed(0, 5), x.vote(8, 0), x.voids(3), x.weather(7200, 0, 1), x.sky(0, 0, 1, 0, 1), x.alp(4, 1),
            x.drive(2, 0, 1), x.home(0, 0, 5), x.days(0), x.slope(401), x.works(2, true), x.cheese(-1), x.fell(2, 0),
            x.channel(3, 0, 0), x.turn(3), x.work(0, 0), x.plan(8, 1, 0), x.sheet(0, 3, 1), x.cell(2, 0, 0), x.lose(1, 0),
            x.copy(0, 0, 1, 0, 1)};
        int[] due = {-2, -1, -1, -3, -3, -3, -3, -2, -2, -1, -1, -13, -2, -21, -2, -2, -2, -1, -2, -1, -1, -1, -2, -1, -2, -11, -13, -13};
        for (int i = 0; i < due.length; i++) due("refusal " + i, refusals[i], due[i]);
        String other = Look.firstOther(Look.at(x), Look.at(Communes.valley()));
        due("nothing is changed by them; " + other, other.isEmpty() ? 0 : 1, 0);
    }
}
