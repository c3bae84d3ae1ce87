/** Promises 24 to 28: sheet, cell, copy, court, taken. Sheets are read back by court(). */
public final class HostTest {
    private static final int BAD = -2, NOTHING = -11, OUTSIDE = -12, OTHER = -13, BELOW_0 = -14;
    private static final Checks CHECKS = new Checks("HostTest");

    public static void main(String[] args) {
        sheet();
        sheetRefuses();
        cell();
        cellRefuses();
        copy();
        copyOverItself();
        copyRefuses();
        court();
        courtOutside();
        courtOfNone();
        courtRefuses();
        taken();
        CHECKS.end();
    }

    private static void due(String what, long got, long want) {
        CHECKS.due(what, got, want);
    }

    private static void write(AlarmsOfFondness x, int sheet, int sort, int... items) {
        due("sheet", x.sheet(sheet, sort, items.length), 1);
        for (int i = 0; i < items.length; i++) {
            due("cell", x.cell(sheet, i, items[i]), 1);
        }
    }

    /** What one is told to be who comes by three items. */
    private static void comes(AlarmsOfFondness x, int sheet, int sort, int from, int... want) {
        int one = x.count(0);
        due("one comes", x.court(sheet, sort, from, 1), 1);
        due("kind", x.told(one, 7), want[0]);
        due("number", x.told(one, 1), want[1]);
        due("duty", x.told(one, 2), want[2]);
    }

    private static void sheet() {
        AlarmsOfFondness x = new AlarmsOfFondness();
        for (int i = 0; i < 4; i++) {
            due("40 of a sort", x.sheet(i, i % 3, 40), 1);
            due("the last item", x.cell(i, 39, 1), 1);
        }
        write(x, 0, 2, 5, 9, 23);
        comes(x, 0, 2, 0, 5, 9, 23);
        due("again, all 0", x.sheet(0, 2, 3), 1);
        comes(x, 0, 2, 0, 0, 0, 0);
        due("a smaller one", x.sheet(0, 2, 1), 1);
        due("has no second item", x.cell(0, 1, 0), OUTSIDE);
        due("of 0", x.sheet(0, 1, 0), 1);
        due("has no item", x.cell(0, 0, 0), OUTSIDE);
        due("missing", x.sheet(0, -1, 12345), 1);
        due("is missing", x.cell(0, 0, 0), NOTHING);
        due("missing, n does not matter", x.sheet(1, -1, -5), 1);
    }

    private static void sheetRefuses() {
        AlarmsOfFondness x = new AlarmsOfFondness();
        write(x, 0, 1, 1, 2, 3);
        int[][] bad = {{-1, 0, 1}, {4, 0, 1}, {0, 3, 1}, {0, -2, 1}, {0, 0, 41}, {0, 3, -1}, {4, 0, -1}, {4, -1, 0}};
        for (int[] w : bad) {
            due("sheet BAD", x.sheet(w[0], w[1], w[2]), BAD);
        }
        due("a size below 0", x.sheet(0, 0, -1), BELOW_0);
        comes(x, 0, 1, 0, 1, 2, 3);
    }

    private static void cell() {
        AlarmsOfFondness x = new AlarmsOfFondness();
        write(x, 0, 0, 256 + 1, 512 - 254, 3 - 256);
        comes(x, 0, 0, 0, 1, 2, 3);
        write(x, 1, 1, 65536 + 1, 2 - 65536, 3);
        comes(x, 1, 1, 0, 1, 2, 3);
        write(x, 1, 1, 256 + 1, 2, 3);
        due("a short keeps more than 8 bits", x.court(1, 1, 0, 1), 0);
        write(x, 2, 2, 65536 + 1, 2, 3);
        due("an int keeps all", x.court(2, 2, 0, 1), 0);
        write(x, 0, 0, 128 + 5, 2, 3);
        due("a byte of 133 is below 0", x.court(0, 0, 0, 1), 0);
    }

    private static void cellRefuses() {
        AlarmsOfFondness x = new AlarmsOfFondness();
        due("missing", x.cell(3, 0, 0), NOTHING);
        due("missing ahead of outside", x.cell(3, -1, 0), NOTHING);
        due("no such SHEET", x.cell(4, 0, 0), BAD);
        due("no such SHEET", x.cell(-1, 0, 0), BAD);
        x.sheet(3, 2, 2);
        int[] outside = {-1, 2, Integer.MAX_VALUE, Integer.MIN_VALUE};
        for (int i : outside) {
            due("cell(3, " + i + ")", x.cell(3, i, 0), OUTSIDE);
        }
    }

    private static void copy() {
        AlarmsOfFondness x = new AlarmsOfFondness();
        write(x, 0, 1, 9, 5, 4, 3, 9);
        x.sheet(1, 1, 4);
        due("three", x.copy(0, 1, 1, 1, 3), 3);
        comes(x, 1, 1, 1, 5, 4, 3);
        comes(x, 1, 1, 0, 0, 5, 4);
        due("none at the end", x.copy(0, 5, 1, 4, 0), 0);
        due("all", x.copy(1, 0, 0, 0, 4), 4);
        comes(x, 0, 1, 0, 0, 5, 4);
    }

    private static void copyOverItself() {
        AlarmsOfFondness x = new AlarmsOfFondness();
        write(x, 0, 2, 1, 2, 3, 4, 5);
        due("onward", x.copy(0, 0, 0, 1, 4), 4);
        comes(x, 0, 2, 1, 1, 2, 3);
        comes(x, 0, 2, 2, 2, 3, 4);
        write(x, 0, 2, 1, 2, 3, 4, 5);
        due("backward", x.copy(0, 1, 0, 0, 4), 4);
        comes(x, 0, 2, 0, 2, 3, 4);
        comes(x, 0, 2, 1, 3, 4, 5);
    }

    private static void copyRefuses() {
        AlarmsOfFondness x = new AlarmsOfFondness();
        x.sheet(0, 0, 4);
        x.sheet(1, 1, 4);
        x.sheet(2, 0, 3);
        int[][] bad = {{-1, 0, 0, 0, 0}, {4, 0, 0, 0, 0}, {0, 0, -1, 0, 0}, {0, 0, 4, 0, 0}, {3, 0, 4, 0, 0}};
        for (int[] w : bad) {
            due("copy BAD", x.copy(w[0], w[1], w[2], w[3], w[4]), BAD);
        }
        due("from a missing one", x.copy(3, 0, 0, 0, -1), NOTHING);
        due("to a missing one", x.copy(0, 0, 3, 0, -1), NOTHING);
        due("unlike sorts ahead of outside", x.copy(0, 0, 1, 0, -1), OTHER);
        int max = Integer.MAX_VALUE;
        int min = Integer.MIN_VALUE;
        int[][] outside = {{0, 0, -1}, {-1, 0, 1}, {0, -1, 1}, {0, 0, 4}, {2, 0, 3}, {0, 1, 3}, {5, 0, 0}, {0, 4, 0},
            {max, 0, 1}, {0, max, 1}, {1, 0, max}, {max, max, max}, {min, 0, min}, {0, 0, min}};
        for (int[] w : outside) {
            due("copy(0, " + w[0] + ", 2, " + w[1] + ", " + w[2] + ")", x.copy(0, w[0], 2, w[1], w[2]), OUTSIDE);
        }
    }

    private static void court() {
        AlarmsOfFondness x = new AlarmsOfFondness();
        write(x, 0, 2, 7, 1, 2, 3, 6, 0, 0, 0, 10, 0, 5, 9, 23);
        due("two of four", x.court(0, 2, 1, 4), 2);
        due("the first", x.told(0, 7), 1);
        due("its number", x.told(0, 1), 2);
        due("its duty", x.told(0, 2), 3);
        due("the second", x.told(1, 7), 5);
        due("its number", x.told(1, 1), 9);
        due("its duty", x.told(1, 2), 23);
        due("five of none", new AlarmsOfFondness().court(0, 2, 0, 5), NOTHING);
        AlarmsOfFondness y = new AlarmsOfFondness();
        y.sheet(0, 2, 15);
        due("five", y.court(0, 2, 0, 5), 5);
        x.person(0, 0, 0);
        x.person(0, 0, 0);
        write(x, 0, 0, 0, 0, 1, 0, 0, 2, 0, 0, 3);
        due("just one has room", x.court(0, 0, 0, 3), 1);
        due("the fifth", x.told(4, 2), 1);
        due("no one has", x.court(0, 0, 0, 3), 0);
        due("none asked", x.court(0, 0, 0, 0), 0);
    }

    private static void courtOutside() {
        AlarmsOfFondness x = new AlarmsOfFondness();
        write(x, 0, 2, 0, 0, 1, 0, 0, 2, 0, 0);
        due("the third is outside", x.court(0, 2, 0, 3), OUTSIDE);
        due("what stood ahead came", x.count(0), 2);
        int[] outside = {6, 7, 8, 9, 40, -1, -3, Integer.MAX_VALUE, Integer.MIN_VALUE};
        for (int from : outside) {
            due("from " + from, x.court(0, 2, from, 1), OUTSIDE);
        }
        due("nobody came", x.count(0), 2);
    }

    private static void courtOfNone() {
        AlarmsOfFondness x = new AlarmsOfFondness();
        x.sheet(0, 1, 0);
        due("no item is asked for", x.court(0, 1, 99, 0), 0);
        due("nor below 0", x.court(0, 1, -99, 0), 0);
    }

    private static void courtRefuses() {
        AlarmsOfFondness x = new AlarmsOfFondness();
        x.sheet(0, 1, 3);
        int[][] bad = {{4, 1, 0, 1}, {-1, 1, 0, 1}, {0, 3, 0, 1}, {0, -1, 0, 1}, {0, 1, 0, 6}, {0, 1, 0, -1},
            {1, 1, 0, 6}};
        for (int[] w : bad) {
            due("court BAD", x.court(w[0], w[1], w[2], w[3]), BAD);
        }
        due("another sort", x.court(0, 0, 99, 1), OTHER);
        due("another sort", x.court(0, 2, 0, 0), OTHER);
        due("missing", x.court(1, 0, 99, 1), NOTHING);
        due("missing, of none", x.court(1, 2, 0, 0), NOTHING);
        due("nobody came", x.count(0), 0);
    }

    private static void taken() {
        int[] under = {0b000001, 0b000011, 0b000101, 0b001011, 0b010101, 0b100001};
        for (int kind = 0; kind < 6; kind++) {
            AlarmsOfFondness x = new AlarmsOfFondness();
            x.person(kind, 4, 0);
            for (int k = 0; k < 6; k++) {
                due("kind " + kind + " for " + k, x.taken(0, k), (under[kind] >> k & 1) != 0 ? 4 : OTHER);
            }
            due("BAD", x.taken(0, 6), BAD);
            due("BAD", x.taken(0, -1), BAD);
            due("BAD ahead of none such", x.taken(1, 6), BAD);
            due("none such", x.taken(1, 0), NOTHING);
            due("none such", x.taken(-1, 0), NOTHING);
        }
    }
}
