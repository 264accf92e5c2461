/** Promises 46 to 49: sheet, cell, lose, copy. What stands in a sheet is seen by sky(). */
public final class SheetsTest {
    public static void main(String[] args) {
        sheet();
        sheetAnew();
        cell();
        lose();
        copyAnswers();
        copy();
        copyWithinOne();
        Check.end();
    }

    /** The items of a sheet of floats, as WARM of days from 1000 on; 99 where one is none. */
    private static void reads(String when, AlpCommune x, int sheet, int... items) {
        for (int i = 0; i < items.length; i++) {
            x.weather(1000, 0, 7);
            int toldDays = x.sky(1000, 0, sheet, i, 1);
            Check.due(when + ": item " + i + " is one", toldDays, items[i] == 99 ? 0 : 1);
            if (items[i] != 99) Check.due(when + ": item " + i, x.skyOf(1000, 0), items[i]);
        }
        Check.due(when + ": no more", x.sky(1000, 0, sheet, items.length, 1), -12);
    }

    private static void sheet() {
        AlpCommune x = new AlpCommune();
        for (int s : Check.outside(0, 2)) Check.due("sheet " + s, x.sheet(s, 0, 1), -2);
        for (int sort : Check.outside(-1, 2)) Check.due("sort " + sort, x.sheet(0, sort, 1), -2);
        for (int s = 0; s < 3; s++) Check.due("missing at first", x.cell(s, 0, 0), -11);
        for (int sort = 0; sort < 3; sort++) {
            for (int n : new int[] {61, Check.MOST}) Check.due("n " + n, x.sheet(0, sort, n), -2);
            for (int n : new int[] {-1, Check.LEAST}) Check.due("n " + n, x.sheet(0, sort, n), -14);
        }
        Check.due("it is missing as yet", x.cell(0, 0, 0), -11);
        Check.due("BAD sort ahead of -14", x.sheet(0, 3, -1), -2);
        Check.due("BAD sheet ahead of -14", x.sheet(3, 0, -1), -2);
        Check.due("n 0", x.sheet(0, 0, 0), 1);
        Check.due("no item", x.cell(0, 0, 0), -12);
        Check.due("n 60", x.sheet(0, 0, 60), 1);
        Check.due("the last item", x.cell(0, 59, 0), 1);
        Check.due("no such item", x.cell(0, 60, 0), -12);
        for (int n : new int[] {0, -1, 61, Check.LEAST, Check.MOST}) Check.due("missing, n " + n, x.sheet(0, -1, n), 1);
        Check.due("it is missing", x.cell(0, 0, 0), -11);
        Check.due("missing, no such sheet", x.sheet(3, -1, 0), -2);
    }

    private static void sheetAnew() {
        AlpCommune x = new AlpCommune();
        x.sheet(0, 2, 3);
        reads("all 0", x, 0, 0, 0, 0);
        x.cell(0, 1, 8);
        x.lose(0, 2);
        x.sheet(0, 2, 4);
        reads("all 0 anew", x, 0, 0, 0, 0, 0);
        x.cell(0, 1, 8);
        Check.due("-14 changes nothing", x.sheet(0, 2, -1), -14);
        reads("as it was", x, 0, 0, 2, 0, 0);
        x.sheet(0, 1, 4);
        x.cell(0, 0, 44);
        x.sheet(0, 2, 1);
        reads("of another sort", x, 0, 0);
    }

    private static void cell() {
        AlpCommune x = new AlpCommune();
        for (int s : Check.outside(0, 2)) Check.due("sheet " + s, x.cell(s, 0, 1), -2);
        Check.due("missing", x.cell(1, -1, 1), -11);
        for (int sort = 0; sort < 3; sort++) {
            x.sheet(sort, sort, 3);
            for (int i : Check.outside(0, 2)) Check.due("item " + i, x.cell(sort, i, 1), -12);
            for (int v : new int[] {0, 255, 65536, Check.LEAST, Check.MOST}) Check.due("v " + v, x.cell(sort, 2, v), 1);
        }
        x.cell(2, 0, -6);
        x.cell(2, 1, 100);
        reads("quarters", x, 2, -1, 25, 99);
        x.cell(2, 2, 0);
        reads("quarters", x, 2, -1, 25, 0);
    }

    private static void lose() {
        AlpCommune x = new AlpCommune();
        for (int s : Check.outside(0, 2)) Check.due("sheet " + s, x.lose(s, 0), -2);
        Check.due("missing", x.lose(0, 0), -11);
        Check.due("missing ahead of no item", x.lose(0, 9), -11);
        x.sheet(0, 0, 2);
        Check.due("bytes", x.lose(0, 0), -13);
        Check.due("-13 ahead of -12", x.lose(0, 2), -13);
        x.sheet(0, 1, 2);
        Check.due("shorts", x.lose(0, 0), -13);
        x.sheet(0, 2, 2);
        for (int i : Check.outside(0, 1)) Check.due("item " + i, x.lose(0, i), -12);
        Check.due("lose", x.lose(0, 1), 1);
        reads("lost", x, 0, 0, 99);
        Check.due("lose again", x.lose(0, 1), 1);
        x.cell(0, 1, 4);
        reads("found", x, 0, 0, 1);
    }

    private static void copyAnswers() {
        AlpCommune x = new AlpCommune();
        x.sheet(0, 0, 5);
        for (int s : Check.outside(0, 2)) {
            Check.due("sheet " + s, x.copy(s, 0, 0, 0, 1), -2);
            Check.due("other " + s, x.copy(0, 0, s, 0, 1), -2);
        }
        Check.due("BAD ahead of -11", x.copy(1, 0, 3, 0, 1), -2);
        Check.due("the other is missing", x.copy(0, 0, 1, 0, 1), -11);
        Check.due("missing", x.copy(1, 0, 0, 0, 1), -11);
        Check.due("both missing", x.copy(1, 0, 2, 0, 1), -11);
        Check.due("-11 ahead of -12", x.copy(1, -1, 1, 0, -1), -11);
        x.sheet(1, 1, 5);
        Check.due("bytes to shorts", x.copy(0, 0, 1, 0, 1), -13);
        x.sheet(2, 2, 5);
        Check.due("floats to bytes", x.copy(2, 0, 0, 0, 1), -13);
        Check.due("shorts to floats", x.copy(1, 0, 2, 0, 1), -13);
        Check.due("-13 ahead of -12", x.copy(0, -1, 1, 9, -1), -13);
        Check.due("-13 with n 0", x.copy(0, 0, 1, 0, 0), -13);
        x.sheet(1, 0, 3);
        for (int i : new int[] {Check.LEAST, -1, 5, Check.MOST}) Check.due("i " + i, x.copy(0, i, 1, 0, 1), -12);
        for (int j : new int[] {Check.LEAST, -1, 3, Check.MOST}) Check.due("j " + j, x.copy(0, 0, 1, j, 1), -12);
        for (int n : new int[] {Check.LEAST, -1, 4, Check.MOST}) Check.due("n " + n, x.copy(0, 0, 1, 0, n), -12);
        Check.due("beyond the end", x.copy(0, 3, 0, 0, 3), -12);
        Check.due("beyond the other's end", x.copy(0, 0, 1, 2, 2), -12);
        Check.due("n 0 at the ends", x.copy(0, 5, 1, 3, 0), 0);
        Check.due("n 0 beyond the end", x.copy(0, 6, 1, 3, 0), -12);
        Check.due("n 0 beyond the other's end", x.copy(0, 5, 1, 4, 0), -12);
        Check.due("bytes", x.copy(0, 2, 1, 0, 3), 3);
        x.sheet(0, 1, 2);
        x.sheet(1, 1, 2);
        Check.due("shorts", x.copy(0, 0, 1, 0, 2), 2);
    }

    private static void copy() {
        AlpCommune x = new AlpCommune();
        x.sheet(0, 2, 5);
        x.sheet(1, 2, 4);
        for (int i = 0; i < 5; i++) x.cell(0, i, 4 * i + 4);
        x.lose(0, 3);
        x.cell(1, 3, 80);
        Check.due("copy", x.copy(0, 2, 1, 0, 3), 3);
        reads("to", x, 1, 3, 99, 5, 20);
        reads("from stays", x, 0, 1, 2, 3, 99, 5);
        Check.due("-12 copies nothing", x.copy(0, 0, 1, 2, 3), -12);
        reads("to", x, 1, 3, 99, 5, 20);
    }

    private static void copyWithinOne() {
        AlpCommune x = new AlpCommune();
        x.sheet(0, 2, 6);
        for (int i = 0; i < 6; i++) x.cell(0, i, 4 * i);
        Check.due("up", x.copy(0, 0, 0, 2, 4), 4);
        reads("as they all were before", x, 0, 0, 1, 0, 1, 2, 3);
        for (int i = 0; i < 6; i++) x.cell(0, i, 4 * i);
        Check.due("down", x.copy(0, 2, 0, 0, 4), 4);
        reads("as they all were before", x, 0, 2, 3, 4, 5, 4, 5);
        Check.due("all to itself", x.copy(0, 0, 0, 0, 6), 6);
        reads("as they were", x, 0, 2, 3, 4, 5, 4, 5);
    }
}
