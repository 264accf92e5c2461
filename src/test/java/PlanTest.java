/** Promise 41: plan. */
public final class PlanTest {
    public static void main(String[] args) {
        answers();
        tooManyDays();
        firstOfSeveral();
        staying();
        changesNothing();
        againstAllPlans();
        Check.end();
    }

    private static void answers() {
        AlpCommune x = new AlpCommune();
        Check.due("no houses", x.plan(0, 1, 0), -1);
        Check.due("no houses", x.plan(1, 1, 0), -1);
        x.house(1, 1, 10, 0);
        Check.due("no alps", x.plan(1, 1, 0), -1);
        x.alp(0, 1);
        Check.due("no GRASS", x.plan(1, 1, 0), 10);
        for (int i = 1; i < 7; i++) x.house(1, 1, 10, 0);
        for (int set : new int[] {0, 128, 129, -1, Check.LEAST, Check.MOST}) Check.due("set " + set, x.plan(set, 1, 0), -1);
        for (int what : Check.outside(0, 2)) Check.due("what " + what, x.plan(3, 1, what), -1);
        Check.due("what 6 of five", x.plan(31, 1, 6), -1);
        for (int n : Check.outside(1, 30)) Check.due("n " + n, x.plan(3, n, 0), -2);
        Check.due("NONE ahead of BAD", x.plan(3, 0, 3), -1);
        Check.due("six houses", x.plan(63, 1, 0), -2);
        Check.due("six houses, the sixth", x.plan(63, 1, 6), -2);
        Check.due("six houses, what", x.plan(63, 1, 7), -1);
        Check.due("five houses", x.plan(62, 30, 0), 1500);
        Check.due("the fifth", x.plan(62, 30, 5), 0);
    }

    private static void tooManyDays() {
        AlpCommune x = new AlpCommune();
        x.house(1, 1, 1, 0);
        x.alp(0, 10);
        Check.live(x, 7190);
        Check.due("up to 7199", x.plan(1, 10, 0), 0);
        Check.due("beyond 7199", x.plan(1, 11, 0), -2);
        Check.live(x, 9);
        Check.due("the last day", x.plan(1, 1, 0), 0);
        Check.due("beyond 7199", x.plan(1, 2, 0), -2);
    }

    private static void firstOfSeveral() {
        AlpCommune x = new AlpCommune();
        for (int i = 0; i < 3; i++) x.house(1, 1, 5, 0);
        for (int i = 0; i < 3; i++) x.alp(0, 20);
        // 5 cows each, and GRASS for 3 on each alp: apart they are best, and the first such plan is 0, 1, 2.
        Check.due("fewest", x.plan(7, 1, 0), 6);
        int[] alps = {0, 1, 2};
        for (int m = 0; m < 3; m++) Check.due("alp of " + m, x.plan(7, 1, m + 1), alps[m]);
        Check.due("two of them", x.plan(6, 1, 0), 4);
        Check.due("the first", x.plan(6, 1, 1), 0);
        Check.due("the second", x.plan(6, 1, 2), 1);
        // A best one that is the first of all, behind one that isn't.
        Check.due("apart", x.plan(7, 1, 3), 2);
        AlpCommune z = new AlpCommune();
        for (int i = 0; i < 2; i++) z.house(1, 1, 5 * i, 0);
        z.alp(3, 1);
        z.alp(0, 99);
        Check.due("the second alp", z.plan(2, 1, 1), 1);
        Check.due("the first alp", z.plan(1, 1, 1), 0);
        AlpCommune y = new AlpCommune();
        y.house(1, 1, 0, 0);
        y.house(1, 1, 50, 0);
        y.house(1, 1, 0, 0);
        y.alp(3, 99);
        y.alp(0, 99);
        Check.due("fewest", y.plan(7, 1, 0), 50 - 16);
        Check.due("no cows: the least", y.plan(7, 1, 1), 0);
        Check.due("the better", y.plan(7, 1, 2), 1);
        Check.due("no cows: the least", y.plan(7, 1, 3), 0);
    }

    private static AlpCommune upland() {
        AlpCommune x = new AlpCommune();
        x.house(1, 1, 9, 99999);
        x.house(1, 1, 8, 99999);
        x.house(1, 1, 7, 99999);
        x.alp(0, 10);
        x.alp(0, 10);
        x.counts();
        Check.pass(x, "feet 0");
        Check.pass(x, "from 0");
        Check.pass(x, "rate 0");
        return x;
    }

    private static void staying() {
        AlpCommune x = upland();
        x.drive(2, 0, 6);
        // GRASS 5 a day on each: one cow is fed on the first day.
        Check.due("those that stay are counted", x.plan(1, 1, 0), 9 - 1 + 6 - 1);
        Check.due("they stay", x.plan(1, 1, 1), 1);
        Check.due("two of them", x.plan(3, 1, 0), 9 + 8 + 6 - 2);
        Check.due("its own all move", x.plan(4, 1, 0), 7 - 1);
        Check.due("its own all move", x.plan(4, 1, 1), 0);
        x.drive(0, 1, 4);
        Check.due("a member's are not counted twice", x.plan(5, 1, 0), 9 + 7 - 2);
        Check.due("the other alp's stay as well", x.plan(4, 1, 0), 4 + 7 - 2);
        Check.due("apart from them", x.plan(4, 1, 1), 0);
    }

    private static void changesNothing() {
        AlpCommune x = upland();
        x.drive(0, 0, 6);
        x.days(3);
        int[] before = told(x);
        x.plan(7, 30, 0);
        int[] after = told(x);
        for (int i = 0; i < before.length; i++) Check.due("told " + i, after[i], before[i]);
    }

    private static int[] told(AlpCommune x) {
        int[] told = new int[3 * 13 + 2 * 8 + 15];
        int n = 0;
        for (int h = 0; h < 3; h++) for (int what = 0; what < 13; what++) told[n++] = x.told(h, what);
        for (int alp = 0; alp < 2; alp++) for (int what = 0; what < 8; what++) told[n++] = x.alpOf(alp, what);
        for (int what = 0; what < 15; what++) told[n++] = x.count(what);
        return told;
    }

    /** Many communes, each with all its plans lived cow by cow. */
    private static void againstAllPlans() {
        long seed = 7;
        for (int round = 0; round < 300; round++) {
            int[] r = new int[80];
            for (int i = 0; i < r.length; i++) {
                seed = seed * 6364136223846793005L + 1442695040888963407L;
                r[i] = (int) (seed >>> 33);
            }
            AlpCommune x = new AlpCommune();
            int houses = 1 + r[0] % 7, alps = 1 + r[1] % 4;
            for (int h = 0; h < houses; h++) x.house(1, 1, r[2 + h] % 30, 99999);
            for (int a = 0; a < alps; a++) x.alp(r[10 + a] % 4, 1 + r[15 + a] % 60);
            Check.pass(x, "feet 0");
            Check.pass(x, "rate 0");
            Check.pass(x, "from 0");
            for (int i = 0; i < 8; i++) x.weather(r[20 + i] % 60, 0, r[30 + i] % 35 - 5);
            for (int i = 0; i < 5; i++) x.weather(r[40 + i] % 60, 1, r[50 + i] % 60);
            x.days(1 + r[60] % 30);
            for (int h = 0; h < houses; h++) if (r[61 + h] % 3 > 0) x.drive(h, r[68 + h] % alps, 1 + r[75] % 9);
            int set = 1 + r[76] % ((1 << houses) - 1), n = 1 + r[77] % 30;
            while (Integer.bitCount(set) > 5) set &= set - 1;
            int[] best = new Plans(x, n).best(set, n);
            for (int what = 0; what <= Integer.bitCount(set); what++) Check.due("round " + round + ", plan " + what, x.plan(set, n, what), best[what]);
        }
    }

    /** What a commune's plans hang on, asked of it once, and all of them lived cow by cow. */
    private static final class Plans {
        final int[] cows, warm, fall;
        final int[][] up, alps;

        Plans(AlpCommune x, int days) {
            cows = new int[x.count(0)];
            alps = new int[x.count(4)][4];
            up = new int[cows.length][alps.length];
            warm = new int[days];
            fall = new int[days];
            for (int a = 0; a < alps.length; a++) for (int what = 0; what < 4; what++) alps[a][what] = x.alpOf(a, what);
            for (int h = 0; h < cows.length; h++) {
                cows[h] = x.told(h, 2);
                for (int a = 0; a < alps.length; a++) up[h][a] = x.alpOf(a, 5 + h);
            }
            int today = x.count(3);
            for (int d = 0; d < days; d++) {
                warm[d] = x.skyOf(today + d, 0);
                fall[d] = x.skyOf(today + d, 1);
            }
        }

        /** The fewest hungry, and behind that the alps of the first plan that has them. */
        int[] best(int set, int days) {
            int size = Integer.bitCount(set);
            int[] on = new int[size], best = null;
            while (true) {
                int[][] planned = new int[cows.length][alps.length];
                int m = 0;
                for (int h = 0; h < cows.length; h++) {
                    if ((set >> h & 1) == 1) planned[h][on[m++]] = cows[h];
                    else planned[h] = up[h];
                }
                int hungry = hungry(planned, days);
                if (best == null || hungry < best[0]) {
                    best = new int[size + 1];
                    best[0] = hungry;
                    System.arraycopy(on, 0, best, 1, size);
                }
                int last = size - 1;
                while (last >= 0 && on[last] == alps.length - 1) on[last--] = 0;
                if (last < 0) return best;
                on[last]++;
            }
        }

        private int hungry(int[][] planned, int days) {
            int hungry = 0;
            for (int a = 0; a < alps.length; a++) {
                int height = alps[a][0], area = alps[a][1], grass = alps[a][2], snow = alps[a][3];
                for (int day = 0; day < days; day++) {
                    int w = warm[day] - 5 * height;
                    if (w <= 2) snow += fall[day];
                    else snow = snow < 2 * w ? 0 : snow - 2 * w;
                    if (snow == 0 && w > 0) grass += (w < 20 ? w : 20) * area / 10;
                    if (grass > 10 * area) grass = 10 * area;
                    for (int[] of : planned) {
                        for (int cow = 0; cow < of[a]; cow++) {
                            if (grass >= 3) grass -= 3;
                            else hungry++;
                        }
                    }
                }
            }
            return hungry;
        }
    }
}
