/** Promises 34 to 37: fell, channel, hour, gets. */
public final class WoodWaterTest {
    public static void main(String[] args) {
        fellAnswers();
        lots();
        sold();
        barred();
        channel();
        hour();
        gets();
        leaks();
        Check.end();
    }

    private static void fellAnswers() {
        AlpCommune x = new AlpCommune();
        x.slope(43);
        Check.due("no house", x.fell(0, 0), -1);
        x.house(9, 1, 0, 0);
        x.house(1, 1, 0, 0);
        for (int s : Check.outside(0, 0)) Check.due("slope " + s, x.fell(s, 0), -1);
        for (int h : Check.outside(0, 1)) Check.due("house " + h, x.fell(0, h), -1);
        Check.due("LOGS", x.fell(0, 0), 10);
        Check.due("AGE", x.slopeOf(0, 0), 0);
        Check.due("all to 0", x.told(0, 11), 10);
        Check.due("none to 1", x.told(1, 11), 0);
        Check.due("none any more", x.fell(0, 0), 0);
        Check.due("count(11)", x.count(11), 10);
    }

    private static void lots() {
        AlpCommune x = new AlpCommune();
        x.slope(160);
        x.slope(400);
        x.house(2, 1, 0, 0);
        x.house(3, 2, 0, 0);
        x.house(4, 1, 0, 0);
        Check.pass(x, "lot 5 if heads=2");
        Check.due("LOGS", x.fell(0, 1), 40);
        int[] logs = {6, 15, 12};
        for (int h = 0; h < 3; h++) Check.due("LOGS of " + h, x.told(h, 11), logs[h]);
        Check.due("LOGS", x.fell(1, 2), 100);
        for (int h = 0; h < 3; h++) Check.due("LOGS of " + h, x.told(h, 11), 2 * logs[h]);
        Check.due("count(11), sold ones too", x.count(11), 140);
        x.slope(64);
        x.fell(2, 2);
        int[] short16 = {2 * 6 + 4, 30, 24 + 12};
        for (int h = 0; h < 3; h++) Check.due("as far as they last, LOGS of " + h, x.told(h, 11), short16[h]);
        x.slope(400);
        Check.pass(x, "lot 0");
        Check.due("LOGS", x.fell(3, 0), 100);
        for (int h = 0; h < 3; h++) Check.due("lot 0, LOGS of " + h, x.told(h, 11), short16[h]);
        x.slope(400);
        Check.pass(x, "lot 99999");
        x.fell(4, 1);
        Check.due("a great lot", x.told(1, 11), 130);
    }

    private static void sold() {
        AlpCommune x = new AlpCommune();
        x.house(1, 2, 0, 0);
        x.house(1, 3, 0, 0);
        x.house(1, 4, 0, 0);
        x.year();
        int[] debts = {20, 30, 40};
        for (int h = 0; h < 3; h++) Check.due("DEBT of " + h, x.told(h, 4), debts[h]);
        x.slope(172);
        Check.due("LOGS", x.fell(0, 1), 43);
        int[] left = {0, 16, 40};
        for (int h = 0; h < 3; h++) Check.due("34 sold, DEBT of " + h, x.told(h, 4), left[h]);
        x.slope(400);
        Check.due("LOGS", x.fell(1, 2), 100);
        for (int h = 0; h < 3; h++) Check.due("91 sold, DEBT of " + h, x.told(h, 4), 0);
    }

    private static void barred() {
        AlpCommune x = new AlpCommune();
        x.house(1, 1, 0, 0);
        x.slope(200);
        x.weather(0, 0, 0);
        x.weather(0, 1, 9);
        x.weather(1, 0, -9);
        x.weather(1, 1, 39);
        x.weather(2, 1, 1);
        x.days(3);
        Check.due("RISK now", x.slopeOf(0, 4), 50);
        Check.due("RISK of 40 by 40", x.fell(0, 0), -3);
        Check.due("NONE ahead of STATE", x.fell(0, 1), -1);
        Check.due("AGE", x.slopeOf(0, 0), 201);
        Check.due("no LOGS", x.told(0, 11), 0);
        x.works(0, true);
        Check.due("RISK of 40 by 70", x.fell(0, 0), 50);
        AlpCommune y = new AlpCommune();
        y.house(1, 1, 0, 0);
        y.slope(200);
        y.weather(0, 0, 0);
        y.weather(0, 1, 9);
        y.weather(1, 0, -9);
        y.weather(1, 1, 39);
        y.days(2);
        Check.due("RISK of 39 by 40", y.fell(0, 0), 50);
    }

    private static void channel() {
        AlpCommune x = new AlpCommune();
        x.house(1, 1, 0, 0);
        x.house(1, 1, 0, 0);
        Check.due("i 1 of none", x.channel(1, 0, 0), -1);
        for (int h : Check.outside(0, 1)) Check.due("house " + h, x.channel(0, h, 0), -1);
        for (int leak : Check.outside(0, 100)) Check.due("leak " + leak, x.channel(0, 0, leak), -2);
        Check.due("NONE ahead of BAD", x.channel(0, 2, 101), -1);
        Check.due("a first one", x.channel(0, 0, 100), 1);
        for (int i : Check.outside(0, 1)) Check.due("i " + i, x.channel(i, 0, 0), -1);
        Check.due("that one anew", x.channel(0, 1, 0), 1);
        for (int i = 1; i < 10; i++) Check.due("channel " + i, x.channel(i, i % 2, i), i + 1);
        Check.due("FULL", x.channel(10, 0, 0), -4);
        Check.due("NONE ahead of FULL", x.channel(10, 2, 0), -1);
        Check.due("BAD ahead of FULL", x.channel(10, 0, 101), -2);
        Check.due("i 11", x.channel(11, 0, 0), -1);
        Check.due("the last anew", x.channel(9, 0, 7), 10);
    }

    private static void hour() {
        AlpCommune x = new AlpCommune();
        x.house(1, 1, 0, 0);
        x.house(1, 1, 0, 0);
        x.right(0, 1, 9);
        Check.due("no hours", x.hour(0), -1);
        Check.due("no hours, NONE ahead of BAD", x.hour(-1), -1);
        x.right(1, 3, 2);
        x.right(0, 2, 5);
        x.right(0, 3, 3);
        int[] hours = {1, 1, 3, 3, 3};
        for (int h = 0; h < 15; h++) Check.due("hour " + h, x.hour(h), hours[h % 5]);
        Check.due("the greatest hour", x.hour(Check.MOST), hours[Check.MOST % 5]);
        Check.due("below 0", x.hour(-1), -2);
        Check.due("the least", x.hour(Check.LEAST), -2);
        x.split(1, 1);
        int[] split = {1, 3, 3, 3, 4};
        for (int h = 0; h < 10; h++) Check.due("split, hour " + h, x.hour(h), split[h % 5]);
        x.join(1, 4);
        int[] joined = {3, 3, 3, 4, 4};
        for (int h = 0; h < 10; h++) Check.due("joined, hour " + h, x.hour(h), joined[h % 5]);
    }

    private static void gets() {
        AlpCommune x = new AlpCommune();
        x.house(1, 1, 0, 0);
        x.house(1, 1, 0, 0);
        x.channel(0, 0, 0);
        Check.due("no hours", x.gets(0, 0, 100), 0);
        x.right(0, 3, 1);
        x.right(1, 3, 1);
        for (int h : Check.outside(0, 1)) Check.due("house " + h, x.gets(h, 0, 100), -5);
        for (int h : new int[] {-1, Check.LEAST}) Check.due("hour " + h, x.gets(0, h, 100), -5);
        for (int flow : Check.outside(0, 10000)) Check.due("flow " + flow, x.gets(0, 0, flow), -5);
        Check.due("its hour", x.gets(0, 0, 10000), 10000);
        Check.due("another's hour", x.gets(0, 1, 10000), 0);
        Check.due("its hour again", x.gets(0, 2, 77), 77);
        Check.due("the greatest hour", x.gets(0, Check.MOST, 77), 0);
        Check.due("flow 0", x.gets(0, 0, 0), 0);
        Check.due("not in the channel", x.gets(1, 1, 100), 0);
        x.channel(1, 1, 50);
        Check.due("in the channel", x.gets(1, 1, 100), 50);
        x.lend(1, 0, 1);
        Check.due("who holds it", x.gets(0, 1, 100), 100);
        Check.due("not its owner", x.gets(1, 1, 100), 0);
        x.days(1);
        Check.due("back", x.gets(1, 1, 100), 50);
    }

    private static void leaks() {
        AlpCommune x = new AlpCommune();
        for (int h = 0; h < 4; h++) x.house(1, 1, 0, 0);
        for (int h = 0; h < 4; h++) x.right(h, 3, 1);
        x.channel(0, 2, 10);
        x.channel(1, 0, 25);
        x.channel(2, 2, 5);
        x.channel(3, 1, 33);
        x.channel(4, 3, 100);
        Check.due("its first place", x.gets(2, 2, 999), 899);
        Check.due("behind it", x.gets(0, 0, 999), 674);
        Check.due("behind that", x.gets(1, 1, 999), 428);
        Check.due("a leak of all", x.gets(3, 3, 999), 0);
        x.channel(0, 1, 0);
        Check.due("another first place", x.gets(1, 1, 999), 999);
        Check.due("its second place", x.gets(2, 2, 999), 711);
    }
}
