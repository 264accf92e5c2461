/** Promises 1 to 45 where as much is there as can be: ten houses, fifty rights, forty words, four alps, six slopes. */
public final class FullTest {
    public static void main(String[] args) {
        rights();
        words();
        days();
        cheese();
        woodTurnsAndYears();
        plans();
        Check.end();
    }

    private static AlpCommune tenHouses() {
        AlpCommune x = new AlpCommune();
        for (int h = 0; h < 10; h++) x.house(1, 3, 20 + h, 99999);
        for (int alp = 0; alp < 4; alp++) x.alp(0, 99);
        for (int slope = 0; slope < 6; slope++) x.slope(400);
        x.counts();
        return x;
    }

    private static void rights() {
        AlpCommune x = tenHouses();
        for (int r = 0; r < 50; r++) x.right(r % 10, 1 + r % 3, 999);
        Check.due("the last", x.rightOf(49, 1), 9);
        Check.due("whole of 0", x.parts(-1, 0), 17 * 999);
        Check.due("whole of 2", x.parts(-1, 2), 16 * 999);
        Check.due("the tenth house's of 1", x.parts(9, 1), 2 * 999);
        Check.due("the last hour", x.hour(16 * 999 - 1), 47);
        Check.due("round", x.hour(16 * 999), 2);
        for (int i = 0; i < 10; i++) x.channel(i, i, 1);
        int flow = 10000;
        for (int i = 0; i < 10; i++) flow = flow * 99 / 100;
        Check.due("whose right 29 is", x.rightOf(29, 1), 9);
        Check.due("in the hour of right 29", x.gets(9, 9 * 999, 10000), flow);
        Check.due("lend the last", x.lend(49, 0, 7199), 1);
        Check.due("taken", x.taken(49, 3), -13);
        Check.due("act of the last", x.act(49, 1, 1), 6000);
        for (int r = 0; r < 16; r++) x.join(r + 3 < 48 ? r : 0, r + 3);
        Check.due("the whole stays", x.parts(-1, 0), 17 * 999);
    }

    private static void words() {
        AlpCommune x = tenHouses();
        String longest = "watch 12345 unless not hearths<12345 and not hearths=12345 and not hearths>12345 and not hearths<123";
        for (int i = 0; i < 2; i++) {
            Check.due("100 bytes", Check.say(x, longest), 100);
            Check.due("a word of 100 bytes", x.vote(1023, 0), i);
        }
        Check.say(x, "watch 12345 unless not hearths<12345 and not hearths=12345 and not hearths>12345 and not not hearths");
        Check.due("a fault in the fourth test", x.vote(1023, 0), -10 - 89);
        for (int i = 0; i < 25; i++) x.feed(0x72617465, 4);
        Check.due("100 bytes, a fault", x.vote(1023, 0), -14);
        for (int i = 2; i < 40; i++) Check.pass(x, "fine 7 if cows=" + (20 + i % 10));
        Check.due("count(2)", x.count(2), 40);
        for (int h = 0; h < 10; h++) Check.due("why of " + h, x.why(h, 5, 0, 0), 30 + h);
        Check.due("voids", x.voids(39), 0);
        Check.due("the one ahead of it", x.why(9, 5, 0, 0), 29);
    }

    private static void days() {
        AlpCommune x = tenHouses();
        Check.pass(x, "feet 0");
        Check.pass(x, "from 0");
        for (int h = 0; h < 10; h++) Check.due("drive of " + h, x.drive(h, 3, 20), 20);
        x.weather(0, 0, 10);
        x.shut(true);
        x.days(1);
        Check.due("up there", x.alpOf(3, 4), 200);
        Check.due("of the tenth", x.alpOf(3, 14), 20);
        Check.due("no eleventh", x.alpOf(3, 15), -5);
        Check.due("GRASS", x.alpOf(3, 2), 0);
        int[] fed = {20, 13, 0};
        for (int i = 0; i < 3; i++) Check.due("MILK", x.told(new int[] {0, 1, 9}[i], 7), 8 * fed[i]);
        Check.due("HAY of the tenth", x.told(9, 3), 99999 - 9);
        Check.due("HUNGRY of the tenth", x.told(9, 6), 20);
        Check.due("measure", x.measure(), 8 * 33);
        Check.due("home", x.home(9, 3, 20), 0);
        Check.due("slope 5", x.slopeOf(5, 0), 400);
        Check.live(x, 269);
        x.days(1);
        Check.due("DEBT of the ninth", x.told(8, 4), 100);
        Check.due("DEBT of the tenth", x.told(9, 4), 0);
    }

    private static void cheese() {
        AlpCommune x = tenHouses();
        Check.pass(x, "feet 0");
        Check.pass(x, "from 0");
        x.weather(0, 0, 20);
        x.days(10);
        for (int h = 0; h < 10; h++) x.drive(h, h % 4, 20);
        x.days(1);
        x.measure();
        Check.due("wheels", x.cheese(25), 25);
        for (int h = 0; h < 10; h++) {
            Check.due("wheels of " + h, x.told(h, 10), h < 5 ? 3 : 2);
            Check.due("rest of " + h, x.rest(h), h < 5 ? -5000 : 5000);
            Check.due("SUM of " + h, x.told(h, 8), 0);
        }
        Check.due("wheels in all", x.count(10), 25);
        for (int h = 0; h < 9; h++) x.home(h, h % 4, 20);
        x.days(1);
        x.measure();
        Check.due("all to the tenth", x.cheese(9999), 9999);
        Check.due("wheels of the tenth", x.told(9, 10), 2 + 9999);
    }

    private static void woodTurnsAndYears() {
        AlpCommune x = tenHouses();
        Check.due("year", x.year(), 10 * 2 * 3 * 5);
        Check.pass(x, "lot 1");
        Check.due("LOGS", x.fell(5, 9), 100);
        for (int h = 0; h < 10; h++) Check.due("LOGS of " + h, x.told(h, 11), 1);
        for (int h = 0; h < 10; h++) Check.due("DEBT of " + h, x.told(h, 4), h < 3 ? 0 : 30);
        for (int slope = 0; slope < 5; slope++) x.fell(slope, 0);
        for (int h = 0; h < 10; h++) Check.due("no DEBT of " + h, x.told(h, 4), 0);
        for (int kind = 0; kind < 3; kind++) {
            for (int i = 0; i < 21; i++) Check.due("turn " + kind, x.turn(kind), i % 10);
        }
    }

    private static void plans() {
        AlpCommune x = tenHouses();
        Check.pass(x, "feet 0");
        Check.pass(x, "from 0");
        for (int h = 0; h < 5; h++) x.drive(h, h % 4, 20);
        x.weather(0, 0, 20);
        Check.due("no GRASS enough", x.plan(992, 30, 0), hungerOf(x, 992, 30));
        Check.due("the set 1 to 5", x.plan(62, 7, 0), hungerOf(x, 62, 7));
        Check.due("the tenth's alp", x.plan(992, 30, 5) < 4 ? 1 : 0, 1);
        Check.due("six", x.plan(1008, 30, 0), -2);
        Check.due("ten", x.plan(1023, 30, 0), -2);
        Check.due("an eleventh", x.plan(1024, 30, 0), -1);
    }

    /** By the model, to which the same is said. */
    private static int hungerOf(AlpCommune x, int set, int n) {
        Model y = new Model();
        for (int h = 0; h < 10; h++) y.house(1, 3, x.told(h, 2), 99999);
        for (int alp = 0; alp < 4; alp++) {
            y.alp(x.alpOf(alp, 0), x.alpOf(alp, 1));
            for (int h = 0; h < 10; h++) y.houses.get(h).up[alp] = x.alpOf(alp, 5 + h);
        }
        y.weather(0, 0, x.skyOf(0, 0));
        return y.plan(set, n, 0);
    }
}
