/** Communes to begin with. */
final class Communes {
    private Communes() { }

    static AlpCommune withHouses(int n) {
        AlpCommune x = new AlpCommune();
        for (int h = 0; h < n; h++) x.house(2, 3, 10, 100);
        return x;
    }

    /** Some of everything, on day 152: three houses, nine rights, three words, two alps, two slopes, three drives. */
    static AlpCommune valley() {
        AlpCommune x = new AlpCommune();
        x.house(2, 3, 10, 4000);
        x.house(3, 2, 6, 900);
        x.house(1, 5, 0, 50);
        valleysRights(x);
        x.alp(0, 10);
        x.alp(1, 30);
        x.slope(20);
        x.slope(200);
        x.counts();
        sky(x, 100, 12, 0);
        sky(x, 148, -8, 30);
        sky(x, 149, 0, 20);
        sky(x, 150, -9, 25);
        sky(x, 151, 5, 0);
        sky(x, 152, 5, 3);
        Check.pass(x, "fine 6");
        Check.live(x, 150);
        Check.pass(x, "feet 3 if cows>5");
        Check.pass(x, "rate 20 unless hay<1000");
        x.drive(0, 0, 4);
        x.drive(0, 1, 3);
        x.drive(1, 1, 2);
        x.days(1);
        x.measure();
        x.cheese(5);
        x.days(1);
        valleysOther(x);
        return x;
    }

    /** COW 0, 1, HALF 7; WOOD 2, and 8, which was joined to it; HOUR 3, 4; STRANGE 5, RIGHT 6; 4 is lent to 0 till 160. */
    private static void valleysRights(AlpCommune x) {
        x.right(0, 1, 60);
        x.right(1, 1, 24);
        x.right(1, 2, 9);
        x.right(0, 3, 3);
        x.right(2, 3, 2);
        x.right(2, 5, 7);
        x.right(0, 0, 11);
        x.split(0, 8);
        x.split(2, 4);
        x.join(8, 2);
        x.lend(4, 0, 160);
    }

    private static void valleysOther(AlpCommune x) {
        x.channel(0, 0, 10);
        x.channel(1, 2, 25);
        for (int kind = 0; kind < 3; kind++) x.turn(kind);
        x.work(0, 2);
        x.sheet(0, 2, 4);
        x.cell(0, 1, 41);
        x.lose(0, 2);
        x.sheet(1, 0, 3);
        Check.say(x, "lot 4 if c");
        x.act(7, 1, 5);
        x.shut(true);
    }

    static void sky(AlpCommune x, int day, int warm, int fall) {
        x.weather(day, 0, warm);
        x.weather(day, 1, fall);
    }

    /** Lives days, each with a warmth and a fall. */
    static void live(AlpCommune x, int[]... skies) {
        for (int[] each : skies) {
            sky(x, x.count(3), each[0], each[1]);
            x.days(1);
        }
    }

    /** Houses with so many cows each, which may all go up at any time, by the words 0 to 3. */
    static AlpCommune free(int... cows) {
        AlpCommune x = new AlpCommune();
        for (int n : cows) x.house(1, 1, n, 99999);
        for (String word : new String[] {"feet 0", "rate 0", "from 0", "till 999"}) Check.pass(x, word);
        return x;
    }
}
