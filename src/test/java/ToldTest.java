/** Promises 17 to 23: tells, film, drawn, chance, image, back, count. */
public final class ToldTest {
    private static final int NONE = -1, BAD = -2, STATE = -3, NOTHING = -11;
    private static final long NO = AlarmsOfFondness.NO;
    private static final Checks CHECKS = new Checks("ToldTest");

    public static void main(String[] args) {
        firstOtherwise();
        kindsAndNumbers();
        howTired();
        howTiredOfAQueen();
        duties();
        textsAndPeople();
        tellsBySorts();
        tellsRefuses();
        tellsChangesNothing();
        film();
        filmRefuses();
        drawn();
        chance();
        imageAndBack();
        imageOfWhoCame();
        count();
        CHECKS.end();
    }

    private static void due(String what, long got, long want) {
        CHECKS.due(what, got, want);
    }

    private static void write(AlarmsOfFondness x, int sheet, int sort, int... items) {
        due("sheet", x.sheet(sheet, sort, items.length), 1);
        for (int i = 0; i < items.length; i++) {
            due("cell", x.cell(sheet, i, items[i]), 1);
        }
    }

    private static AlarmsOfFondness two(int kind, int number, String text) {
        AlarmsOfFondness x = new AlarmsOfFondness();
        x.person(0, 3, 6);
        x.person(kind, number, 8);
        if (!text.isEmpty()) {
            due(text, Checks.textOf(x, text), 1);
            x.force(1);
        }
        return x;
    }

    private static void firstOtherwise() {
        AlarmsOfFondness x = two(0, 0, "sets 5 + day; tires 0; grows 0;");
        write(x, 0, 2, 5, 6, 7);
        due("all so", x.tells(0, 0, 1, 0), NONE);
        x.cell(0, 2, 8);
        due("the third is otherwise", x.tells(0, 0, 1, 0), 2);
        x.cell(0, 0, -1);
        due("the first is", x.tells(0, 0, 1, 0), 0);
        write(x, 0, 2);
        due("nothing is told", x.tells(0, 0, 1, 0), NONE);
    }

    /** v is 12 on two days: a PERSON sets to 12, a MOTHER and a CHILD to 14, a HUSBAND to 6, a QUEEN to NUMBER. */
    private static void kindsAndNumbers() {
        AlarmsOfFondness x = two(5, 6, "sets 12; tires 0; grows 0;");
        write(x, 0, 2, 14, 14);
        due("MOTHER, CHILD", x.tells(0, 0, 1, 1), 2 + 8);
        write(x, 0, 2, 12, 12);
        due("PERSON", x.tells(0, 0, 1, 1), 1);
        write(x, 0, 2, 6, 6);
        due("HUSBAND, DOCTOR (on DAY 0: duty 6), QUEEN of number 6", x.tells(0, 0, 1, 1), 4 + 16 + 32);
        due("of the QUEEN just one number", x.tells(0, 0, 1, 2), 1 << 6);
        due("of who doesn't set it all kinds", x.tells(0, 0, 0, 1), 63);
        due("and all numbers", x.tells(0, 0, 0, 2), 1023);
        x.set(1, 1, 5);
        due("were the number so", x.tells(0, 0, 1, 2), 1 << 6);
        due("as it is, a QUEEN doesn't fit", x.tells(0, 0, 1, 1), 4 + 16);
        write(x, 0, 2, 20);
        due("no kind", x.tells(0, 0, 1, 1), 0);
        due("no number", x.tells(0, 0, 1, 2), 0);
    }

    /** 1 sets 0's clock by how tired 1 is, 5 more each day. */
    private static void howTired() {
        AlarmsOfFondness x = two(0, 0, "sets tired; tires 5; grows 0;");
        write(x, 0, 0, 7, 12, 17);
        due("just one", x.tells(0, 0, 1, 3), 1);
        due("7", x.tells(0, 0, 1, 4), 7);
        due("none of 0's", x.tells(0, 0, 0, 3), 0);
        due("no least", x.tells(0, 0, 0, 4), NONE);
        write(x, 0, 0, 23, 23);
        due("23 and above", x.tells(0, 0, 1, 3), 77);
        due("the least", x.tells(0, 0, 1, 4), 23);
        write(x, 0, 0, 0, 5);
        due("of 0 all", x.tells(0, 0, 0, 3), 100);
        due("of 0 the least", x.tells(0, 0, 0, 4), 0);
        AlarmsOfFondness y = two(0, 0, "");
        write(y, 0, 0, 7, 7);
        due("by TEXT 0 all", y.tells(0, 0, 1, 3), 100);
        due("by TEXT 0 the least", y.tells(0, 0, 1, 4), 0);
        write(y, 0, 0, 8);
        due("by TEXT 0 none", y.tells(0, 0, 1, 3), 0);
        due("by TEXT 0 no least", y.tells(0, 0, 1, 4), NONE);
        AlarmsOfFondness z = two(0, 0, "sets fond; tires 0; grows tired < 40;");
        write(z, 0, 0, 1, 2, 3);
        due("growing minds how tired one is", z.tells(0, 0, 1, 3), 40);
        write(z, 0, 0, 1, 1);
        due("growing: the least", z.tells(0, 0, 1, 4), 40);
    }

    private static void howTiredOfAQueen() {
        AlarmsOfFondness x = two(5, 7, "sets 5 - 2 * (tired < 58); tires 8; grows 0;");
        write(x, 0, 0, 3, 3, 5);
        due("0 sets the QUEEN's clock", x.tells(0, 1, 0, 3), 8);
        due("from 42 on", x.tells(0, 1, 0, 4), 42);
        write(x, 0, 0, 7, 7);
        due("the QUEEN sets by her number", x.tells(0, 0, 1, 3), 100);
    }

    /** DUTIES are of whose waking was told, whoever by is. */
    private static void duties() {
        AlarmsOfFondness x = two(0, 0, "sets duty + 1; tires 0; grows 0;");
        write(x, 0, 0, 9);
        due("0's duty would be 8", x.tells(0, 0, 1, 5), 1 << 8);
        due("by does not matter", x.tells(0, 0, 0, 5), 1 << 8);
        due("1's duty is 8", x.tells(0, 1, 0, 5), 1 << 8);
        write(x, 0, 0, 23);
        due("22 and 23", x.tells(0, 0, 1, 5), 3 << 22);
        write(x, 0, 0, 0);
        due("none", x.tells(0, 0, 1, 5), 0);
        write(x, 0, 0);
        due("all", x.tells(0, 0, 1, 5), (1 << 24) - 1);
    }

    private static void textsAndPeople() {
        AlarmsOfFondness x = two(0, 0, "sets 7; tires 0; grows 0;");
        x.person(0, 0, 0);
        Checks.textOf(x, "sets 8; tires 0; grows 0;");
        Checks.textOf(x, "sets 7 + day; tires 0; grows 0;");
        write(x, 0, 0, 7);
        due("TEXTS 0, 1, 3", x.tells(0, 0, 1, 6), 1 + 2 + 8);
        write(x, 0, 0, 7, 7);
        due("TEXTS 0, 1", x.tells(0, 0, 1, 6), 1 + 2);
        due("PEOPLE", x.tells(0, 0, 1, 7), 7);
        x.set(6, 1, 0);
        x.set(6, 21, 0);
        due("1 isn't woken", x.tells(0, 0, 1, 7), 1 + 4);
        write(x, 0, 0, -1);
        due("1 alone isn't woken", x.tells(0, 0, 1, 7), 2);
        due("no TEXT", x.tells(0, 0, 1, 6), 0);
        due("all TEXTS", x.tells(0, 1, 1, 6), 15);
    }

    private static void tellsBySorts() {
        AlarmsOfFondness x = two(0, 0, "");
        for (int sort = 0; sort < 3; sort++) {
            write(x, sort, sort, 7 + 256, 7 + 65536);
            int[] first = {NONE, 0, 0};
            due("sort " + sort, x.tells(sort, 0, 0, 0), first[sort]);
        }
        write(x, 1, 1, 7 + 65536, 7 - 65536);
        due("shorts keep 16 bits", x.tells(1, 0, 0, 0), NONE);
        x.set(6, 10, 0);
        write(x, 0, 0, 255, -1);
        due("a byte 255 is NONE", x.tells(0, 0, 0, 0), NONE);
        write(x, 1, 1, 65535, -1);
        due("a short 65535 is NONE", x.tells(1, 0, 0, 0), NONE);
        write(x, 1, 1, 255);
        due("a short 255 isn't", x.tells(1, 0, 0, 0), 0);
    }

    private static void tellsRefuses() {
        AlarmsOfFondness x = two(0, 0, "");
        int[][] wrong = {{4, 0, 0, 0}, {-1, 0, 0, 0}, {0, 2, 0, 0}, {0, -1, 0, 0}, {0, 0, 2, 0}, {0, 0, -1, 0},
            {0, 0, 0, 8}, {0, 0, 0, -1}};
        for (int[] w : wrong) {
            due("tells BAD (ahead of -11)", x.tells(w[0], w[1], w[2], w[3]), BAD);
        }
        due("missing", x.tells(0, 0, 0, 0), NOTHING);
        x.sheet(0, 0, 21);
        due("more than 20", x.tells(0, 0, 0, 0), BAD);
        x.sheet(0, 0, 20);
        due("20", x.tells(0, 0, 0, 0), 0);
    }

    private static void tellsChangesNothing() {
        AlarmsOfFondness x = two(0, 0, "");
        x.film(0, 0, 20);
        for (int what = 0; what < 8; what++) {
            x.tells(0, 0, 1, what);
        }
        due("DAY", x.count(2), 0);
        due("RULE", x.count(5), 0);
        due("KIND", x.told(1, 7), 0);
        due("NUMBER", x.told(1, 1), 0);
        due("TIRED", x.told(1, 3), 0);
        due("DUTY", x.told(0, 2), 6);
    }

    private static void film() {
        AlarmsOfFondness x = two(0, 0, "sets day; tires 0; grows -1;");
        x.set(6, 10, 3);
        due("film of 5", x.film(2, 0, 5), 5);
        write(x, 0, 0, 0, 1, 2, 9, 9);
        due("copied", x.copy(2, 3, 0, 3, 2), 2);
        due("three days woken, then not", x.tells(0, 0, 0, 0), NONE);
        write(x, 1, 0, 0, 1, 2, -1, -1);
        due("as told by hand", x.tells(1, 0, 0, 0), NONE);
        due("it has 5 items", x.cell(2, 5, 0), -12);
        due("film of 20", x.film(2, 0, 20), 20);
        due("it has 20 items", x.cell(2, 19, -1), 1);
        due("it has no more", x.cell(2, 20, 0), -12);
        due("film of 0", x.film(2, 0, 0), 0);
        due("it has none", x.cell(2, 0, 0), -12);
        due("days were in thought", x.count(2), 0);
        due("fondness, too", x.told(10, 6), 3);
    }

    private static void filmRefuses() {
        AlarmsOfFondness x = two(0, 0, "");
        int[][] wrong = {{4, 0, 0}, {-1, 0, 0}, {0, 2, 0}, {0, -1, 0}, {0, 0, 21}, {0, 0, -1}};
        for (int[] w : wrong) {
            due("film BAD", x.film(w[0], w[1], w[2]), BAD);
        }
        due("the sheet is as it was", x.cell(0, 0, 0), NOTHING);
    }

    /** The quarrels are drawn here once more, days being plain by TEXT 0: fondness stays as it is. */
    private static int missedOfFive(int seed, int n) {
        boolean[][] quarrel = new boolean[5][5];
        int last = seed;
        int missed = 0;
        for (int i = 0; i < n; i++) {
            int z = last * 1103515245 + 12345;
            int y = z * 1103515245 + 12345;
            last = y;
            int a = (z >>> 9) % 8;
            int b = (y >>> 9) % 8;
            if (a < 5 && b < 5) {
                quarrel[a][b] = true;
            }
            for (int one = 0; one < 5; one++) {
                boolean woken = false;
                for (int other = 0; other < 5; other++) {
                    woken |= other != one && !quarrel[other][one];
                }
                missed += woken ? 0 : 1;
            }
        }
        return missed;
    }

    private static AlarmsOfFondness five() {
        AlarmsOfFondness x = new AlarmsOfFondness();
        for (int i = 0; i < 5; i++) {
            x.person(0, 0, 7);
        }
        return x;
    }

    private static void drawn() {
        AlarmsOfFondness x = five();
        int[] seeds = {0, 1, -1, 12345, Integer.MAX_VALUE, Integer.MIN_VALUE, 987654321};
        boolean any = false;
        for (int seed : seeds) {
            for (int n = 0; n <= 40; n += 8) {
                due("drawn(" + seed + ", " + n + ")", x.drawn(seed, n), missedOfFive(seed, n));
                any |= missedOfFive(seed, n) > 0;
            }
        }
        CHECKS.holds("some have missed it", any);
        x.set(4, 0, 50);
        due("what was missed before is with it", x.drawn(1, 0), 50);
        due("nothing is changed", x.told(1, 6), 1);
        due("drawn(0, 41)", x.drawn(0, 41), BAD);
        due("drawn(0, -1)", x.drawn(0, -1), BAD);
        due("nobody", new AlarmsOfFondness().drawn(1, 40), 0);
        AlarmsOfFondness alone = new AlarmsOfFondness();
        alone.person(0, 0, 0);
        due("one alone", alone.drawn(1, 40), 40);
    }

    private static void chance() {
        AlarmsOfFondness x = five();
        for (int i = 0; i < 5; i++) {
            for (int j = 0; j < 5; j++) {
                if (j != i && j != (i + 1) % 5) {
                    x.set(6, 10 * i + j, 0);
                }
            }
        }
        int seed = Integer.MAX_VALUE - 3;
        for (int k = 0; k < 30; k++) {
            int enough = 0;
            for (int i = 0; i < 12; i++) {
                enough += x.drawn(seed + i, 10) >= k ? 1 : 0;
            }
            long above = x.chance(seed, 12, k, 0);
            long below = x.chance(seed, 12, k, 1);
            due("k " + k, above * 12, enough * below);
            CHECKS.holds("in lowest terms", java.math.BigInteger.valueOf(above).gcd(java.math.BigInteger.valueOf(below)).intValue() == 1);
        }
        due("one of one", x.chance(7, 1, 0, 0), 1);
        due("one of one", x.chance(7, 1, 0, 1), 1);
        due("all of 20", x.chance(7, 20, 0, 0), 1);
        due("all of 20", x.chance(7, 20, 0, 1), 1);
        due("none", x.chance(7, 20, 99, 0), 0);
        due("none", x.chance(7, 20, 99, 1), 1);
        int[][] wrong = {{0, 0, 0}, {21, 0, 0}, {-1, 0, 0}, {1, -1, 0}, {1, 100, 0}, {1, 0, 2}, {1, 0, -1}};
        for (int[] w : wrong) {
            due("chance NO", x.chance(0, w[0], w[1], w[2]), NO);
        }
    }

    private static void imageAndBack() {
        AlarmsOfFondness x = two(1, 4, "sets 20; tires 30; grows 2;");
        due("no image", x.back(), STATE);
        int[] ofWhat = {0, 1, 1, 1, 1, 1, 10};
        int[] kept = {17, 2, 11, 33, 44, 55, 6};
        for (int what = 0; what < 7; what++) {
            x.set(what, ofWhat[what], kept[what]);
        }
        due("image()", x.image(), 2);
        for (int round = 0; round < 2; round++) {
            for (int what = 0; what < 7; what++) {
                x.set(what, ofWhat[what], 1);
            }
            due("force", x.force(0), 1);
            x.day();
            due("back()", x.back(), 2);
            for (int what = 0; what < 7; what++) {
                due("as it was: " + what, x.told(ofWhat[what], what), kept[what]);
            }
            due("THE RULE", x.count(5), 1);
        }
        x.set(0, 0, 5);
        due("another image", x.image(), 2);
        x.set(0, 0, 6);
        x.back();
        due("the last one", x.count(2), 5);
    }

    private static void imageOfWhoCame() {
        AlarmsOfFondness x = two(1, 4, "");
        x.image();
        x.person(2, 9, 20);
        x.set(6, 2, 9);
        x.set(6, 20, 8);
        x.set(3, 2, 77);
        x.set(4, 2, 66);
        x.set(5, 2, 55);
        Checks.textOf(x, "sets 1; tires 1; grows 1;");
        x.feed(32);
        x.sheet(1, 0, 3);
        due("who came since goes", x.back(), 2);
        due("count(0)", x.count(0), 2);
        due("told(2, 1)", x.told(2, 1), -1000);
        due("told(2, 6)", x.told(2, 6), -1000);
        due("texts stay", x.count(3), 2);
        due("the tape stays", x.count(4), 1);
        due("sheets stay", x.cell(1, 2, 5), 1);
        due("another one comes", x.person(3, 1, 2), 2);
        int[] fresh = {0, 1, 2, 0, 0, 0};
        for (int what = 1; what < 6; what++) {
            due("with nothing of who went: " + what, x.told(2, what), fresh[what]);
        }
        due("kind", x.told(2, 7), 3);
        due("fond", x.told(2, 6), 1);
        due("by all", x.told(20, 6), 1);
    }

    private static void count() {
        AlarmsOfFondness x = two(0, 0, "");
        x.person(0, 0, 0);
        x.set(0, 0, 12);
        Checks.textOf(x, "sets 1; tires 1; grows 1;");
        Checks.feedAll(x, "abc");
        x.force(1);
        due("PEOPLE", x.count(0), 3);
        due("all have a SETTER", x.count(1), 0);
        due("DAY", x.count(2), 12);
        due("TEXTS", x.count(3), 2);
        due("TAPE", x.count(4), 3);
        due("RULE", x.count(5), 1);
        x.set(6, 10, 0);
        x.set(6, 20, 0);
        due("0 has none", x.count(1), 1);
        due("count(6)", x.count(6), BAD);
        due("count(-1)", x.count(-1), BAD);
    }
}
