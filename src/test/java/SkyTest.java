/** Promises 18 to 20: weather, sky, skyOf. */
public final class SkyTest {
    public static void main(String[] args) {
        weather();
        skyOf();
        lookBack();
        sky();
        skyAnswers();
        Check.end();
    }

    private static void weather() {
        AlpCommune x = new AlpCommune();
        for (int day : Check.outside(0, 7199)) Check.due("day " + day, x.weather(day, 0, 1), -1);
        for (int what : Check.outside(0, 1)) Check.due("what " + what, x.weather(0, what, 1), -1);
        Check.due("NONE ahead of BAD", x.weather(7200, 0, 99), -1);
        for (int v : Check.outside(-40, 40)) Check.due("WARM " + v, x.weather(0, 0, v), -2);
        for (int v : Check.outside(0, 200)) Check.due("FALL " + v, x.weather(0, 1, v), -2);
        Check.due("BAD tells nothing", x.skyOf(0, 0), 5);
        for (int v : new int[] {-40, 40, 0}) {
            Check.due("WARM " + v, x.weather(7199, 0, v), 1);
            Check.due("is " + v, x.skyOf(7199, 0), v);
        }
        for (int v : new int[] {200, 0}) {
            Check.due("FALL " + v, x.weather(0, 1, v), 1);
            Check.due("is " + v, x.skyOf(0, 1), v);
        }
    }

    private static void skyOf() {
        AlpCommune x = new AlpCommune();
        for (int day : Check.outside(0, 7199)) Check.due("day " + day, x.skyOf(day, 0), -1000);
        for (int what : Check.outside(0, 1)) Check.due("what " + what, x.skyOf(0, what), -1000);
        Check.due("WARM without any", x.skyOf(0, 0), 5);
        Check.due("FALL without any", x.skyOf(7199, 1), 0);
        x.weather(100, 0, -7);
        Check.due("ahead of it", x.skyOf(99, 0), 5);
        Check.due("on it", x.skyOf(100, 0), -7);
        Check.due("behind it", x.skyOf(101, 0), -7);
        Check.due("far behind it", x.skyOf(7199, 0), -7);
        Check.due("each alone", x.skyOf(101, 1), 0);
        x.weather(200, 1, 9);
        Check.due("each alone", x.skyOf(300, 0), -7);
        Check.due("FALL", x.skyOf(300, 1), 9);
        Check.live(x, 150);
        Check.due("a day that is over", x.weather(20, 0, 12), 1);
        Check.due("as it counts", x.skyOf(99, 0), 12);
        Check.due("told anew", x.weather(100, 0, 3), 1);
        Check.due("as it counts", x.skyOf(101, 0), 3);
    }

    /** Told days on both sides of where a look back may pass over days. */
    private static void lookBack() {
        int[] toldDays = {0, 1, 59, 60, 61, 119, 120, 600, 3599, 3600, 7199};
        for (int toldDay : toldDays) {
            AlpCommune x = toldOn(toldDay);
            for (int day = 0; day < 7200; day++) {
                // A fresh one now and then, as one is for 512 calls.
                if (day % 500 == 0) x = toldOn(toldDay);
                int is = x.skyOf(day, 1);
                if (is != (day < toldDay ? 0 : 33)) Check.due("FALL of " + day + ", told on " + toldDay, is, day < toldDay ? 0 : 33);
            }
            x = toldOn(toldDay);
            x.weather(toldDay, 1, 44);
            x.weather(Math.min(toldDay + 1, 7199), 1, 0);
            Check.due("told again", x.skyOf(toldDay, 1), toldDay == 7199 ? 0 : 44);
        }
    }

    private static AlpCommune toldOn(int day) {
        AlpCommune x = new AlpCommune();
        x.weather(day, 1, 33);
        return x;
    }

    private static AlpCommune withFloats(int... quarters) {
        AlpCommune x = new AlpCommune();
        x.sheet(1, 2, quarters.length);
        for (int i = 0; i < quarters.length; i++) x.cell(1, i, quarters[i]);
        return x;
    }

    private static void sky() {
        AlpCommune x = withFloats(-163, -164, 163, 164, -3, 3, 7, -7, Check.LEAST, Check.MOST);
        for (int day = 0; day < 10; day++) x.weather(day, 0, 20);
        Check.due("WARM", x.sky(0, 0, 1, 0, 10), 6);
        int[] warm = {-40, 20, 40, 20, 0, 0, 1, -1, 20, 20};
        for (int day = 0; day < 10; day++) Check.due("WARM of " + day, x.skyOf(day, 0), warm[day]);
        AlpCommune y = withFloats(-4, -3, 0, 3, 803, 804, 4);
        for (int day = 0; day < 7; day++) y.weather(day, 1, 50);
        Check.due("FALL", y.sky(0, 1, 1, 0, 7), 5);
        int[] fall = {50, 0, 0, 0, 200, 50, 1};
        for (int day = 0; day < 7; day++) Check.due("FALL of " + day, y.skyOf(day, 1), fall[day]);
        AlpCommune z = withFloats(40, 80, 120, 160);
        z.lose(1, 1);
        Check.due("from item 1 on", z.sky(20, 0, 1, 1, 3), 2);
        Check.due("ahead of it", z.skyOf(19, 0), 5);
        Check.due("lost, not told", z.skyOf(20, 0), 5);
        Check.due("item 2", z.skyOf(21, 0), 30);
        Check.due("item 3", z.skyOf(22, 0), 40);
        Check.due("FALL is as it was", z.skyOf(22, 1), 0);
        z.cell(1, 1, 80);
        Check.due("told again", z.sky(20, 0, 1, 1, 1), 1);
        Check.due("item 1", z.skyOf(20, 0), 20);
    }

    private static void skyAnswers() {
        AlpCommune x = withFloats(4, 8, 12, 16);
        x.sheet(0, 0, 4);
        for (int day : Check.outside(0, 7199)) Check.due("day " + day, x.sky(day, 0, 1, 0, 1), -1);
        for (int what : Check.outside(0, 1)) Check.due("what " + what, x.sky(0, what, 1, 0, 1), -1);
        for (int sheet : Check.outside(0, 2)) Check.due("sheet " + sheet, x.sky(0, 0, sheet, 0, 1), -1);
        Check.due("NONE ahead of BAD", x.sky(0, 0, 3, 0, -1), -1);
        Check.due("NONE ahead of n 0", x.sky(0, 2, 1, 0, 0), -1);
        for (int n : new int[] {Check.LEAST, -1, 7201, Check.MOST}) Check.due("n " + n, x.sky(0, 0, 1, 0, n), -2);
        Check.due("beyond the last day", x.sky(7199, 0, 1, 0, 2), -2);
        Check.due("the last day", x.sky(7199, 0, 1, 0, 1), 1);
        Check.due("n 0 on the last day", x.sky(7199, 0, 1, 0, 0), 0);
        Check.due("beyond, of a missing one", x.sky(7199, 0, 2, 0, 2), -2);
        Check.due("n 0 of a missing one", x.sky(0, 0, 2, -1, 0), 0);
        Check.due("n 0 of another sort", x.sky(0, 0, 0, 99, 0), 0);
        Check.due("a missing one", x.sky(0, 0, 2, 0, 1), -11);
        Check.due("of bytes", x.sky(0, 0, 0, 0, 1), -13);
        Check.due("of bytes, no such items", x.sky(0, 0, 0, 9, 1), -13);
        x.sheet(0, 1, 4);
        Check.due("of shorts", x.sky(0, 0, 0, 0, 1), -13);
        for (int i : Check.outside(0, 3)) Check.due("item " + i, x.sky(0, 0, 1, i, 1), -12);
        Check.due("not so many", x.sky(0, 0, 1, 0, 5), -12);
        Check.due("not so many", x.sky(0, 0, 1, 1, 4), -12);
        Check.due("not so many", x.sky(0, 0, 1, 4, 1), -12);
        Check.due("many", x.sky(0, 0, 1, 1, 7200), -12);
        Check.due("nothing was told", x.skyOf(7198, 0), 5);
        x.sheet(1, -1, 0);
        Check.due("missing now", x.sky(0, 0, 1, 0, 1), -11);
    }
}
