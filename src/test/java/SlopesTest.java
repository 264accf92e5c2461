/** Promises 27 to 30, and what promise 26 says of slopes: slope, slopeOf, works, shut, days. */
public final class SlopesTest {
    public static void main(String[] args) {
        slope();
        slopeOf();
        works();
        shut();
        layers();
        melting();
        joinedLayers();
        sliding();
        slidingFromTheLowest();
        slidesAndTheWay();
        ages();
        Check.end();
    }

    private static void sky(AlpCommune x, int day, int warm, int fall) {
        x.weather(day, 0, warm);
        x.weather(day, 1, fall);
    }

    /** Lives days with a warmth and a fall each. */
    private static void live(AlpCommune x, int[]... skies) {
        for (int[] each : skies) {
            sky(x, x.count(3), each[0], each[1]);
            x.days(1);
        }
    }

    /** The layers of a slope, from the ground on. */
    private static void lie(String when, AlpCommune x, int slope, int... layers) {
        Check.due(when + ": how many", x.slopeOf(slope, 2), layers.length);
        int all = 0;
        for (int i = 0; i < layers.length; i++) {
            Check.due(when + ": layer " + i, x.slopeOf(slope, 10 + i), layers[i]);
            all += Math.abs(layers[i]);
        }
        Check.due(when + ": all", x.slopeOf(slope, 3), all);
        Check.due(when + ": no more", x.slopeOf(slope, 10 + layers.length), -500);
    }

    private static void slope() {
        AlpCommune x = new AlpCommune();
        for (int age : Check.outside(0, 400)) Check.due("age " + age, x.slope(age), -2);
        Check.due("the least", x.slope(0), 0);
        Check.due("the greatest", x.slope(400), 1);
        for (int i = 2; i < 6; i++) Check.due("slope " + i, x.slope(i), i);
        Check.due("FULL", x.slope(9), -4);
        Check.due("BAD ahead of FULL", x.slope(401), -2);
        Check.due("count(5)", x.count(5), 6);
        Check.due("AGE", x.slopeOf(1, 0), 400);
        Check.due("AGE", x.slopeOf(5, 0), 5);
    }

    private static void slopeOf() {
        AlpCommune x = new AlpCommune();
        Check.due("none yet", x.slopeOf(0, 0), -500);
        x.slope(199);
        for (int s : Check.outside(0, 0)) Check.due("slope " + s, x.slopeOf(s, 0), -500);
        for (int what : new int[] {Check.LEAST, -1, 7, 8, 9, 10, 16, Check.MOST}) Check.due("what " + what, x.slopeOf(0, what), -500);
        int[] first = {199, 0, 0, 0, 0, 79, 0};
        for (int what = 0; what < 7; what++) Check.due("slopeOf " + what, x.slopeOf(0, what), first[what]);
        x.works(0, true);
        Check.due("WORKS", x.slopeOf(0, 1), 1);
        Check.due("HOLDS", x.slopeOf(0, 5), 109);
    }

    private static void works() {
        AlpCommune x = new AlpCommune();
        x.slope(0);
        x.slope(0);
        for (int s : Check.outside(0, 1)) {
            Check.due("slope " + s, x.works(s, true), -1);
            Check.due("slope " + s, x.works(s, false), -1);
        }
        Check.due("so already", x.works(0, false), 0);
        Check.due("works", x.works(0, true), 1);
        Check.due("so already", x.works(0, true), 0);
        Check.due("each its own", x.slopeOf(1, 1), 0);
        Check.due("none", x.works(0, false), 1);
        Check.due("none", x.slopeOf(0, 1), 0);
    }

    private static void shut() {
        AlpCommune x = new AlpCommune();
        Check.due("open at first", x.shut(false), 0);
        Check.due("shut", x.shut(true), 1);
        Check.due("count(13)", x.count(13), 1);
        Check.due("so already", x.shut(true), 0);
        x.days(3);
        Check.due("in vain, without slopes", x.count(9), 3);
        Check.due("open", x.shut(false), 1);
        Check.due("count(13)", x.count(13), 0);
        x.days(3);
        Check.due("not in vain", x.count(9), 3);
    }

    private static void layers() {
        AlpCommune x = new AlpCommune();
        x.slope(400);
        live(x, new int[] {-5, 7}, new int[] {-4, 8}, new int[] {2, 9}, new int[] {2, 0}, new int[] {3, 50});
        lie("WARM 3 melts", x, 0, 7, -8);
        live(x, new int[] {-40, 200});
        Check.due("HOLDS 120, 200 lie over it: all from it on are gone", x.slopeOf(0, 2), 1);
        Check.due("SLID", x.slopeOf(0, 6), 1);
        Check.due("old WOOD stays", x.slopeOf(0, 0), 400);
        lie("what is left", x, 0, 7);
    }

    private static void melting() {
        AlpCommune x = new AlpCommune();
        x.slope(0);
        live(x, new int[] {-9, 20}, new int[] {-9, 16}, new int[] {5, 0});
        lie("loses 15", x, 0, 20, 1);
        live(x, new int[] {40, 0});
        lie("gone, and nothing more", x, 0, 20);
        live(x, new int[] {3, 200});
        lie("loses 9", x, 0, 11);
        live(x, new int[] {-9, 9}, new int[] {3, 0});
        lie("all of it", x, 0, 11);
        live(x, new int[] {4, 0}, new int[] {4, 0});
        lie("nothing", x, 0);
    }

    private static void joinedLayers() {
        AlpCommune x = new AlpCommune();
        x.slope(0);
        x.works(0, true);
        live(x, new int[] {-9, 1}, new int[] {0, 2}, new int[] {-9, 3}, new int[] {-9, 4}, new int[] {-9, 5}, new int[] {-9, 6});
        lie("six", x, 0, 1, -2, 3, 4, 5, 6);
        live(x, new int[] {-9, 7});
        lie("SOFT if the second is", x, 0, -3, 3, 4, 5, 6, 7);
        Check.due("RISK", x.slopeOf(0, 4), 25 * 100 / 70);
        live(x, new int[] {-9, 8});
        lie("SOFT if the first is", x, 0, -6, 4, 5, 6, 7, 8);
        AlpCommune y = new AlpCommune();
        y.slope(0);
        for (int i = 0; i < 9; i++) live(y, new int[] {-5, 100});
        lie("not SOFT if neither is", y, 0, 400, 100, 100, 100, 100, 100);
        Check.due("RISK 0", y.slopeOf(0, 4), 0);
    }

    private static void sliding() {
        AlpCommune x = new AlpCommune();
        x.slope(38);
        live(x, new int[] {0, 90}, new int[] {-9, 46});
        lie("46 over it, HOLDS 47", x, 0, -90, 46);
        Check.due("HOLDS by AGE 39", x.slopeOf(0, 5), 47);
        Check.due("RISK", x.slopeOf(0, 4), 97);
        live(x, new int[] {-9, 1});
        lie("47 over it", x, 0);
        Check.due("young WOOD is gone", x.slopeOf(0, 0), 0);
        Check.due("HOLDS", x.slopeOf(0, 5), 40);

        AlpCommune y = new AlpCommune();
        y.slope(39);
        y.slope(0);
        y.works(1, true);
        live(y, new int[] {0, 1}, new int[] {-9, 48});
        Check.due("AGE 40 stays", y.slopeOf(0, 0), 40);
        Check.due("SLID", y.slopeOf(0, 6), 1);
        Check.due("WORKS bear it", y.slopeOf(1, 2), 2);
        live(y, new int[] {-9, 22});
        Check.due("WORKS: 70", y.slopeOf(1, 6), 1);
        Check.due("WORKS stay", y.slopeOf(1, 1), 1);
        Check.due("22 is no SOFT one's", y.slopeOf(0, 2), 1);

        AlpCommune z = new AlpCommune();
        z.slope(0);
        z.works(0, true);
        live(z, new int[] {0, 1}, new int[] {-9, 50});
        z.works(0, false);
        Check.due("RISK above 100", z.slopeOf(0, 4), 125);
        live(z, new int[] {5, 0});
        lie("melting is ahead of sliding", z, 0, -1, 35);
    }

    private static void slidingFromTheLowest() {
        AlpCommune x = new AlpCommune();
        x.slope(0);
        live(x, new int[] {-9, 5}, new int[] {0, 3}, new int[] {0, 20}, new int[] {-9, 19});
        lie("39 over the lowest", x, 0, 5, -3, -20, 19);
        Check.due("RISK over the lowest SOFT", x.slopeOf(0, 4), 97);
        live(x, new int[] {-9, 1});
        lie("from the lowest on", x, 0, 5);
        Check.due("once", x.slopeOf(0, 6), 1);
        live(x, new int[] {0, 30}, new int[] {0, 30}, new int[] {0, 9});
        lie("the SOFT one itself isn't counted", x, 0, 5, -30, -30, -9);
    }

    private static void slidesAndTheWay() {
        AlpCommune x = new AlpCommune();
        x.slope(0);
        x.slope(0);
        x.slope(400);
        live(x, new int[] {0, 9}, new int[] {-9, 40});
        Check.due("SLIDES", x.count(7), 2);
        Check.due("MISSED", x.count(8), 2);
        Check.due("not SHUT", x.count(9), 0);
        x.shut(true);
        live(x, new int[] {0, 9}, new int[] {-9, 40});
        Check.due("SLIDES", x.count(7), 4);
        Check.due("not MISSED", x.count(8), 2);
        Check.due("in vain on one of two days", x.count(9), 1);
        live(x, new int[] {-9, 40});
        Check.due("the third SLID alone", x.slopeOf(2, 6), 1);
        Check.due("SLIDES", x.count(7), 5);
        Check.due("not in vain", x.count(9), 1);
        x.days(1);
        Check.due("in vain", x.count(9), 2);
    }

    private static void ages() {
        AlpCommune x = new AlpCommune();
        x.slope(10);
        x.slope(399);
        x.days(1);
        Check.due("day 0", x.slopeOf(0, 0), 11);
        Check.due("day 0", x.slopeOf(1, 0), 400);
        Check.live(x, 359);
        Check.due("day 359", x.slopeOf(0, 0), 11);
        x.days(1);
        Check.due("day 360", x.slopeOf(0, 0), 12);
        Check.due("400 at most", x.slopeOf(1, 0), 400);
        // A slide of day 0 is by the AGE ahead of that year.
        AlpCommune y = new AlpCommune();
        y.slope(39);
        Check.live(y, 358);
        live(y, new int[] {0, 1}, new int[] {-9, 40}, new int[] {-9, 8});
        Check.due("AGE 40 as one more came on day 0", y.slopeOf(0, 6), 1);
        Check.due("AGE 40 stays, and is 1 more", y.slopeOf(0, 0), 41);
    }
}
