/** 'Promise 1' to 'Promise 28': what each call refuses, in which order, and where its answers begin and end. */
public final class EdgesOfCallsTest {
    private static final int NONE = -1, BAD = -2, STATE = -3, FULL = -4, NO_SUCH = -1000;
    private static final int NOTHING = -11, OUTSIDE = -12, OTHER = -13, BELOW_0 = -14;
    private static final int MAX = Integer.MAX_VALUE, MIN = Integer.MIN_VALUE;
    private static final long NO = AlarmsOfFondness.NO;
    private static final String WHOLE = "sets 1; tires 2; grows 3;";
    private static final Edges EDGES = new Edges("EdgesOfCallsTest");

    public static void main(String[] args) {
        aNewObject();
        set();
        setOfDay();
        person();
        told();
        toldAsSet();
        asks();
        woken();
        feed();
        text();
        force();
        day();
        run();
        round();
        others();
        duty();
        fonder();
        mean();
        tells();
        tellsOrder();
        film();
        drawn();
        chance();
        imageAndBack();
        count();
        sheet();
        cell();
        cellBits();
        copy();
        copyAsTheyWere();
        court();
        courtOutside();
        taken();
        hostsRefusals();
        calls512();
        EDGES.end();
    }

    private static void says(String words) {
        EDGES.says(words);
    }

    private static void due(String call, long got, long want) {
        EDGES.due(call, got, want);
    }

    private static AlarmsOfFondness persons(int many) {
        AlarmsOfFondness x = new AlarmsOfFondness();
        for (int i = 0; i < many; i++) {
            x.person(0, 0, 0);
        }
        return x;
    }

    /** Promise 1. */
    private static void aNewObject() {
        says("`AlarmsOfFondness()`: Nobody.");
        AlarmsOfFondness x = new AlarmsOfFondness();
        int[] counts = {0, 0, 0, 1, 0, 0};
        for (int what = 0; what < 6; what++) {
            due("count(" + what + ")", x.count(what), counts[what]);
        }
        for (int what = 1; what < 12; what++) {
            due("told(0, " + what + ")", x.told(0, what), NO_SUCH);
            due("told(1, " + what + ")", x.told(1, what), NO_SUCH);
        }
        due("asks", x.asks(0, 1, 0), NO_SUCH);
        due("woken", x.woken(0, 0), NO_SUCH);
        due("run", x.run(0, 0, 4), BAD);
        due("round", x.round(0), BAD);
        due("duty", x.duty(0, 0, 0), BAD);
        due("fonder", x.fonder(0, 0, 0), BAD);
        due("film", x.film(0, 0, 0), BAD);
        due("taken", x.taken(0, 0), NOTHING);
        due("back", x.back(), STATE);
        due("drawn", x.drawn(0, 40), 0);
        due("chance of 0 or more", x.chance(0, 1, 0, 0), 1);
        due("chance of 1 or more", x.chance(0, 1, 1, 0), 0);
        x.person(0, 0, 0);
        due("another object has nobody", new AlarmsOfFondness().count(0), 0);
    }

    /** Promise 2. */
    private static void set() {
        says("NUMBER (1), DUTY (2), how TIRED (3), MISSED (4), LATE (5) of one of PEOPLE, how FOND (6; of: 10 times one, "
                + "and another one) becomes v: what it was. BAD.");
        int[] most = {999, 9, 23, 99, 99, 9999, 9};
        for (int many = 0; many <= 5; many++) {
            AlarmsOfFondness x = persons(many);
            int[] nobody = {-1, many, 5, 10, MAX, MIN};
            for (int what = 1; what <= 5; what++) {
                for (int of : nobody) {
                    due("set(" + what + ", " + of + ", 0) of " + many, x.set(what, of, 0), BAD);
                }
                if (many > 0) {
                    due("of the last", x.set(what, many - 1, most[what]), 0);
                    due("what it was", x.set(what, many - 1, 0), most[what]);
                    due("far above", x.set(what, many - 1, MAX), BAD);
                    due("far below", x.set(what, many - 1, MIN), BAD);
                }
            }
            for (int of = -60; of <= 120; of++) {
                boolean two = of >= 0 && of / 10 < many && of % 10 < many && of / 10 != of % 10;
                due("set(6, " + of + ", 9) of " + many, x.set(6, of, 9), two ? 1 : BAD);
            }
            due("set(6, MAX, 0)", x.set(6, MAX, 0), BAD);
            due("set(6, MIN, 0)", x.set(6, MIN, 0), BAD);
            int[] whats = {-1, 7, 8, MAX, MIN};
            for (int what : whats) {
                due("set(" + what + ", 0, 0)", x.set(what, 0, 0), BAD);
            }
        }
    }

    /** Promise 2. */
    private static void setOfDay() {
        says("DAY (what 0; of does not matter)");
        AlarmsOfFondness x = new AlarmsOfFondness();
        int[] ofs = {0, -1, 5, 99, MAX, MIN};
        int was = 0;
        for (int of : ofs) {
            due("set(0, " + of + ")", x.set(0, of, was + 1), was);
            due("told(" + of + ", 0)", x.told(of, 0), was + 1);
            due("above", x.set(0, of, 1000), BAD);
            due("below", x.set(0, of, -1), BAD);
            was++;
        }
    }

    /** Promise 3. */
    private static void person() {
        says("One of PEOPLE: the number. BAD; FULL.");
        int[][] wrong = {{-1, 0, 0}, {6, 0, 0}, {0, -1, 0}, {0, 10, 0}, {0, 0, -1}, {0, 0, 24}, {MAX, 0, 0}, {MIN, 0, 0},
            {0, MAX, 0}, {0, MIN, 0}, {0, 0, MAX}, {0, 0, MIN}};
        AlarmsOfFondness x = new AlarmsOfFondness();
        for (int many = 0; many <= 5; many++) {
            for (int[] w : wrong) {
                due("person(" + w[0] + ", " + w[1] + ", " + w[2] + ") of " + many, x.person(w[0], w[1], w[2]), BAD);
            }
            due("nobody came", x.count(0), many);
            due("one comes", x.person(5, 9, 23), many < 5 ? many : FULL);
        }
        due("five", x.count(0), 5);
    }

    /** Promise 4. */
    private static void told() {
        says("11 whose clocks one sets (bits). -1000: none such.");
        for (int many = 0; many <= 5; many++) {
            AlarmsOfFondness x = persons(many);
            int[] nobody = {-1, many, 5, MAX, MIN};
            for (int of : nobody) {
                for (int what = 1; what <= 11; what++) {
                    due("told(" + of + ", " + what + ") of " + many, x.told(of, what), NO_SUCH);
                }
            }
            for (int of = -60; of <= 120; of++) {
                boolean two = of >= 0 && of / 10 < many && of % 10 < many && of / 10 != of % 10;
                due("told(" + of + ", 6) of " + many, x.told(of, 6), two ? 1 : NO_SUCH);
            }
            int[] whats = {-1, 12, MAX, MIN};
            for (int what : whats) {
                due("told(0, " + what + ")", x.told(0, what), NO_SUCH);
            }
        }
        AlarmsOfFondness x = persons(5);
        due("all others'", x.told(0, 11), 0b11110);
        due("0's", x.told(1, 11), 1);
        due("none", x.told(4, 11), 0);
        due("of one alone", persons(1).told(0, 11), 0);
        says("8 SETTER (NONE), 9 when one WAKES (NONE), 10 LATE BY of one of PEOPLE");
        AlarmsOfFondness alone = persons(1);
        due("no SETTER", alone.told(0, 8), NONE);
        due("doesn't wake", alone.told(0, 9), NONE);
        due("isn't late", alone.told(0, 10), 0);
        due("of the last of five", x.told(4, 8), 0);
        due("wakes", x.told(4, 9), 7);
        due("late", x.told(4, 10), 7);
    }

    /** Promise 4. */
    private static void toldAsSet() {
        says("What 0 .. 6 as of set(), 7 KIND");
        int[] most = {999, 9, 23, 99, 99, 9999, 9};
        AlarmsOfFondness x = persons(5);
        for (int what = 0; what <= 6; what++) {
            int of = what == 6 ? 43 : 4;
            x.set(what, of, most[what]);
            due("the most of " + what, x.told(of, what), most[what]);
            x.set(what, of, 0);
            due("0 of " + what, x.told(of, what), 0);
        }
        for (int kind = 0; kind < 6; kind++) {
            AlarmsOfFondness y = new AlarmsOfFondness();
            y.person(kind, 0, 0);
            due("KIND " + kind, y.told(0, 7), kind);
        }
    }

    /** Promise 5. */
    private static void asks() {
        says("To what hour one SETS another one's clock (what 0), what it GROWS by it, were that one late (1), "
                + "not late (2).");
        AlarmsOfFondness mother = new AlarmsOfFondness();
        mother.person(1, 0, 23);
        mother.person(0, 0, 0);
        Checks.textOf(mother, "sets 4; tires 0; grows 5;");
        mother.force(1);
        for (int duty = 0; duty <= 23; duty += 23) {
            mother.set(2, 1, duty);
            due("the hour", mother.asks(0, 1, 0), 6);
            due("were that one late, whether or not", mother.asks(0, 1, 1), 0);
            due("were that one not late, whether or not", mother.asks(0, 1, 2), 5);
        }
        mother.set(6, 1, 0);
        due("who isn't that one's SETTER is asked, too", mother.asks(0, 1, 0), 6);
        says("-1000: no such two, one and the same, what.");
        for (int many = 0; many <= 5; many++) {
            AlarmsOfFondness x = persons(many);
            for (int one = -1; one <= 5; one++) {
                for (int other = -1; other <= 5; other++) {
                    boolean two = one >= 0 && one < many && other >= 0 && other < many && one != other;
                    for (int what = -1; what <= 3; what++) {
                        int answer = what == 0 ? 7 : 0;
                        due("asks(" + one + ", " + other + ", " + what + ") of " + many, x.asks(one, other, what),
                                two && what >= 0 && what <= 2 ? answer : NO_SUCH);
                    }
                }
            }
            due("far above", x.asks(MAX, 0, 0), NO_SUCH);
            due("far below", x.asks(0, MIN, 0), NO_SUCH);
            due("what", x.asks(0, 1, MAX), NO_SUCH);
            due("what", x.asks(0, 1, MIN), NO_SUCH);
        }
    }

    /** Promise 6. */
    private static void woken() {
        says("How much one TIRES, woken at an hour (0 .. 23). -1000: none such.");
        AlarmsOfFondness x = persons(2);
        for (int one = -1; one <= 3; one++) {
            for (int hour = -2; hour <= 25; hour++) {
                boolean is = one >= 0 && one < 2 && hour >= 0 && hour <= 23;
                due("woken(" + one + ", " + hour + ")", x.woken(one, hour), is ? 3 : NO_SUCH);
            }
        }
        due("woken(MAX, 0)", x.woken(MAX, 0), NO_SUCH);
        due("woken(MIN, 0)", x.woken(MIN, 0), NO_SUCH);
        due("woken(0, MAX)", x.woken(0, MAX), NO_SUCH);
        due("woken(0, MIN)", x.woken(0, MIN), NO_SUCH);
    }

    /** Promise 7. */
    private static void feed() {
        says("A byte (0 .. 255) comes behind THE TAPE: how many it has. BAD; FULL.");
        AlarmsOfFondness x = new AlarmsOfFondness();
        int[] wrong = {-1, 256, MAX, MIN};
        for (int i = 0; i <= 160; i++) {
            for (int letter : wrong) {
                if (i % 40 == 0) {
                    due("feed(" + letter + ") behind " + i, x.feed(letter), BAD);
                }
            }
            due("feed behind " + i, x.feed(i % 3 == 0 ? 0 : i % 3 == 1 ? 255 : 128), i < 160 ? i + 1 : FULL);
        }
        due("it has", x.count(4), 160);
    }

    /** Promise 8. */
    private static void text() {
        says("THE TAPE, which is empty then (by a FAULT, too), is a TEXT: its number; -100 less the place of its FAULT.");
        AlarmsOfFondness x = new AlarmsOfFondness();
        due("of none", x.text(), -100);
        due("a FAULT at 0", Checks.textOf(x, "?"), -100);
        due("empty then", x.count(4), 0);
        due("a FAULT at 24", Checks.textOf(x, WHOLE.substring(0, 24)), -124);
        due("empty then", x.count(4), 0);
        due("a TEXT", Checks.textOf(x, WHOLE), 1);
        due("empty then", x.count(4), 0);
        for (int i = 0; i < 160; i++) {
            x.feed(i < 159 ? ' ' : '?');
        }
        due("a FAULT at 159", x.text(), -259);
        for (int i = 0; i < 160; i++) {
            x.feed(' ');
        }
        due("a FAULT at 160", x.text(), -260);
        due("empty then", x.count(4), 0);
        says("FULL (ahead of all): no TEXT more has room (THE TAPE stays).");
        for (int i = 2; i < 6; i++) {
            due("a TEXT", Checks.textOf(x, WHOLE), i);
        }
        due("of none", x.text(), FULL);
        due("of a TEXT", Checks.textOf(x, WHOLE), FULL);
        due("THE TAPE stays", x.count(4), WHOLE.length());
        due("of a FAULT", Checks.textOf(x, "?"), FULL);
        due("THE TAPE stays", x.count(4), WHOLE.length() + 1);
        due("and can be fed", x.feed(0), WHOLE.length() + 2);
        due("TEXTS", x.count(3), 6);
    }

    /** Promise 9. */
    private static void force() {
        says("A TEXT is THE RULE: which was. BAD.");
        AlarmsOfFondness x = new AlarmsOfFondness();
        for (int many = 1; many <= 6; many++) {
            int[] wrong = {-1, many, 6, MAX, MIN};
            for (int text : wrong) {
                due("force(" + text + ") of " + many, x.force(text), BAD);
            }
            due("THE RULE", x.count(5), 0);
            due("the last", x.force(many - 1), 0);
            due("it again", x.force(many - 1), many - 1);
            due("the first", x.force(0), many - 1);
            Checks.textOf(x, WHOLE);
        }
    }

    /** Promise 10. */
    private static void day() {
        says("A DAY, truly: who was LATE BY any (bits). STATE: DAY is 999.");
        AlarmsOfFondness x = persons(5);
        due("all five", x.day(), 31);
        x.set(2, 0, 7);
        due("0 in time", x.day(), 30);
        x.set(2, 0, 6);
        x.set(2, 4, 7);
        due("4 in time, 0 late by 1", x.day(), 15);
        due("truly", x.count(2), 3);
        due("nobody", new AlarmsOfFondness().day(), 0);
        x.set(0, 0, 998);
        due("on 998", x.day(), 15);
        due("on 999", x.day(), STATE);
        due("it stays", x.count(2), 999);
        due("LATE stays", x.told(1, 5), 28);
        x.set(0, 0, 0);
        due("on 0 again", x.day(), 15);
    }

    /** Promise 11. */
    private static void run() {
        says("n DAYS: when one WAKES (what 0; NONE), how TIRED (1), how LATE (2), how many are LATE BY any then (3), "
                + "MISSED of all (4). BAD.");
        AlarmsOfFondness x = persons(1);
        int[][] wrong = {{-1, 0, 0}, {1, 0, 0}, {5, 0, 0}, {MAX, 0, 0}, {MIN, 0, 0}, {0, -1, 0}, {0, 41, 0}, {0, MAX, 0},
            {0, MIN, 0}, {0, 0, -1}, {0, 0, 5}, {0, 0, MAX}, {0, 0, MIN}};
        for (int[] w : wrong) {
            due("run(" + w[0] + ", " + w[1] + ", " + w[2] + ")", x.run(w[0], w[1], w[2]), BAD);
        }
        int[] of40 = {NONE, 0, 0, 0, 40};
        for (int what = 0; what < 5; what++) {
            due("run(0, 0, " + what + ")", x.run(0, 0, what), what == 0 ? NONE : 0);
            due("run(0, 40, " + what + ")", x.run(0, 40, what), of40[what]);
        }
        x.person(0, 0, 0);
        int[] ofTwo = {7, 99, 280, 2, 0};
        for (int what = 0; what < 5; what++) {
            due("two: run(1, 40, " + what + ")", x.run(1, 40, what), ofTwo[what]);
        }
    }

    /** Promise 12. */
    private static void round() {
        says("`int round(int one)`: ROUND. BAD; NONE.");
        for (int many = 0; many <= 5; many++) {
            AlarmsOfFondness x = persons(many);
            int[] wrong = {-1, many, 5, MAX, MIN};
            for (int one : wrong) {
                due("round(" + one + ") of " + many, x.round(one), BAD);
            }
            for (int one = 0; one < many; one++) {
                due("round(" + one + ") of " + many, x.round(one), many == 1 ? NONE : one < 2 ? 2 : 3);
            }
        }
    }

    /** Promise 13. */
    private static void others() {
        says("OTHERS (what 0; digits; NONE), how much (1; NONE). BAD.");
        int[] digits = {NONE, NONE, 21, 231, 2143, 21453};
        for (int many = 0; many <= 5; many++) {
            AlarmsOfFondness x = persons(many);
            int[] wrong = {-1, 2, MAX, MIN};
            for (int what : wrong) {
                due("others(" + what + ") of " + many, x.others(what), BAD);
            }
            due("others(0) of " + many, x.others(0), digits[many]);
            due("others(1) of " + many, x.others(1), many < 2 ? NONE : 7 * many);
        }
    }

    /** Promise 14. */
    private static void duty() {
        says("DUTY OF (what 0), how much (1). BAD.");
        AlarmsOfFondness x = persons(2);
        int[][] wrong = {{-1, 0, 0}, {2, 0, 0}, {5, 0, 1}, {MAX, 0, 0}, {MIN, 0, 0}, {0, -1, 0}, {0, 21, 1}, {0, MAX, 0},
            {0, MIN, 0}, {0, 0, -1}, {0, 0, 2}, {0, 0, MAX}, {0, 0, MIN}};
        for (int[] w : wrong) {
            due("duty(" + w[0] + ", " + w[1] + ", " + w[2] + ")", x.duty(w[0], w[1], w[2]), BAD);
        }
        due("duty(1, 20, 0)", x.duty(1, 20, 0), 7);
        due("duty(1, 20, 1)", x.duty(1, 20, 1), 140);
        due("duty(0, 0, 0)", x.duty(0, 0, 0), 0);
        due("duty(0, 0, 1)", x.duty(0, 0, 1), 0);
    }

    /** Promise 15. */
    private static void fonder() {
        says("FONDER (what 0; NONE), how much (1; as so). BAD.");
        AlarmsOfFondness x = persons(2);
        int[][] wrong = {{-1, 0, 0}, {2, 0, 0}, {5, 0, 1}, {MAX, 0, 0}, {MIN, 0, 0}, {0, -1, 0}, {0, 21, 1}, {0, MAX, 0},
            {0, MIN, 0}, {0, 0, -1}, {0, 0, 2}, {0, 0, MAX}, {0, 0, MIN}};
        for (int[] w : wrong) {
            due("fonder(" + w[0] + ", " + w[1] + ", " + w[2] + ")", x.fonder(w[0], w[1], w[2]), BAD);
        }
        due("later by it", x.fonder(1, 20, 0), NONE);
        due("as so", x.fonder(1, 20, 1), 280);
        x.person(5, 0, 23);
        due("by the QUEEN: of 0, or of 1, at 0", x.fonder(2, 20, 0), 0);
        due("how much", x.fonder(2, 20, 1), 140);
    }

    /** Promise 16. */
    private static void mean() {
        says("MEAN: part 0 above, 1 below the line, in lowest terms. NO: part, there is nobody.");
        int[] parts = {-1, 2, MAX, MIN};
        for (int many = 0; many <= 5; many++) {
            AlarmsOfFondness x = persons(many);
            for (int part : parts) {
                due("mean(" + part + ") of " + many, x.mean(part), NO);
            }
            due("mean(0) of " + many, x.mean(0), many == 0 ? NO : 0);
            due("mean(1) of " + many, x.mean(1), many == 0 ? NO : 1);
            for (int one = 0; one < many; one++) {
                x.set(5, one, 9);
            }
            due("9 each, above", x.mean(0), many == 0 ? NO : 9);
            due("9 each, below", x.mean(1), many == 0 ? NO : 1);
        }
    }

    /** Promise 17. */
    private static void tells() {
        says("TOLD of one: the first that is otherwise (what 0; NONE), KINDS (1), NUMBERS (2), how TIRED: how many (3), "
                + "the least (4; NONE) (all of who is numbered by), DUTIES (5), TEXTS (6), PEOPLE (7).");
        AlarmsOfFondness x = persons(2);
        x.sheet(0, 0, 20);
        x.cell(0, 0, 24);
        x.sheet(1, 2, 0);
        int[] never = {0, 0, 0, 0, NONE, 0, 0, 0};
        int[] always = {NONE, 63, 1023, 100, 0, 0xFFFFFF, 1, 3};
        for (int what = 0; what < 8; what++) {
            due("never so, " + what, x.tells(0, 0, 1, what), never[what]);
            due("always so, " + what, x.tells(1, 0, 1, what), always[what]);
        }
        x.film(0, 0, 20);
        int[] asItIs = {NONE, 1, 1023, 100, 0, 0xFFFFFF, 1, 3};
        for (int what = 0; what < 8; what++) {
            due("as it is, " + what, x.tells(0, 0, 1, what), asItIs[what]);
        }
        due("KINDS of who is numbered by, who sets no clock of one's own", x.tells(0, 0, 0, 1), 63);
        tellsAheadOfAll();
    }

    /** Each as the first that looks ahead; 0 is woken by 1 at 7, all others by 0 at 6 + how fond it is of them. */
    private static void tellsAheadOfAll() {
        for (int one = 0; one < 5; one++) {
            for (int what = 0; what < 8; what++) {
                AlarmsOfFondness x = persons(5);
                for (int other = 1; other < 5; other++) {
                    x.set(6, other, 2 * other);
                }
                int hour = one == 0 ? 7 : 6 + 2 * one;
                int by = one == 0 ? 1 : 0;
                int[] want = {NONE, 1, 1023, 100, 0, 0xFFFFFF, 1, 1 << one};
                due("told", x.told(one, 9), hour);
                x.sheet(2, 1, 1);
                x.cell(2, 0, hour);
                due(one + " woken at " + hour + ", what " + what, x.tells(2, one, by, what), want[what]);
            }
        }
        due("run", persons(5).run(4, 3, 2), 21);
        due("duty", persons(5).duty(4, 1, 0), 7);
        due("fonder", persons(5).fonder(4, 1, 1), 35);
        due("drawn", persons(1).drawn(1, 3), 3);
        due("chance", persons(1).chance(1, 1, 10, 0), 1);
        due("others", persons(5).others(1), 35);
    }

    /** Promise 17. */
    private static void tellsOrder() {
        says("BAD: SHEET, no such one, no such by, what; -11; BAD: it tells more than 20.");
        AlarmsOfFondness x = persons(2);
        x.sheet(1, 1, 21);
        x.sheet(2, 1, 20);
        int[][] wrong = {{-1, 0, 0, 0}, {4, 0, 0, 0}, {MAX, 0, 0, 0}, {MIN, 0, 0, 0}, {0, -1, 0, 0}, {0, 2, 0, 0},
            {0, MAX, 0, 0}, {0, MIN, 0, 0}, {0, 0, -1, 0}, {0, 0, 2, 0}, {0, 0, MAX, 0}, {0, 0, MIN, 0}, {0, 0, 0, -1},
            {0, 0, 0, 8}, {0, 0, 0, MAX}, {0, 0, 0, MIN}};
        for (int[] w : wrong) {
            for (int sheet = 0; sheet < 3; sheet++) {
                due("wrong, by SHEET " + sheet, x.tells(w[0] == 0 ? sheet : w[0], w[1], w[2], w[3]), BAD);
            }
        }
        for (int what = 0; what < 8; what++) {
            due("missing, " + what, x.tells(0, 0, 1, what), NOTHING);
            due("21, " + what, x.tells(1, 0, 1, what), BAD);
            for (int by = -1; by <= 2; by++) {
                boolean is = by == 0 || by == 1;
                due("by " + by + ", what " + what, x.tells(2, 0, by, what) == BAD ? 1 : 0, is ? 0 : 1);
            }
        }
        due("of nobody, missing", new AlarmsOfFondness().tells(0, 0, 0, 0), BAD);
    }

    /** Promise 18. */
    private static void film() {
        says("A SHEET truly becomes when one WAKES on this DAY, the next one, .., n of them (n 0 .. 20; bytes): n. BAD.");
        AlarmsOfFondness x = persons(2);
        x.sheet(0, 2, 40);
        int[][] wrong = {{-1, 0, 0}, {4, 0, 0}, {MAX, 0, 0}, {MIN, 0, 0}, {0, -1, 0}, {0, 2, 0}, {0, MAX, 0}, {0, MIN, 0},
            {0, 0, -1}, {0, 0, 21}, {0, 0, MAX}, {0, 0, MIN}};
        for (int[] w : wrong) {
            due("film(" + w[0] + ", " + w[1] + ", " + w[2] + ")", x.film(w[0], w[1], w[2]), BAD);
        }
        due("as it was: ints", x.court(0, 2, 0, 0), 0);
        due("as it was: 40", x.cell(0, 39, 0), 1);
        int[] sizes = {20, 1, 0};
        for (int n : sizes) {
            due("film of " + n, x.film(0, 0, n), n);
            due("bytes", x.court(0, 0, 0, 0), 0);
            due("it has no more", x.cell(0, n, 0), OUTSIDE);
            due("the last", x.cell(0, n - 1, 7), n == 0 ? OUTSIDE : 1);
            due("it is so", x.tells(0, 0, 0, 0), NONE);
        }
        due("of a missing one", x.film(3, 1, 20), 20);
        x.set(6, 10, 0);
        due("who isn't woken", x.film(3, 0, 2), 2);
        x.sheet(2, 0, 2);
        x.cell(2, 0, NONE);
        x.cell(2, 1, NONE);
        due("NONE by hand", x.tells(2, 0, 0, 0), NONE);
        due("NONE by film", x.tells(3, 0, 0, 0), NONE);
        AlarmsOfFondness onward = persons(2);
        Checks.textOf(onward, "sets day; tires 0; grows 0;");
        onward.force(1);
        onward.set(0, 0, 3);
        onward.film(0, 0, 20);
        onward.sheet(1, 0, 20);
        for (int i = 0; i < 20; i++) {
            onward.cell(1, i, 3 + i);
        }
        due("by hand", onward.tells(1, 0, 0, 0), NONE);
        due("by film", onward.tells(0, 0, 0, 0), NONE);
        due("DAY stays", onward.count(2), 3);
        due("of nobody", new AlarmsOfFondness().film(0, 0, 0), BAD);
        filmOfEach();
    }

    /** Each of five wakes at hours of one's own. */
    private static void filmOfEach() {
        for (int one = 0; one < 5; one++) {
            AlarmsOfFondness x = new AlarmsOfFondness();
            for (int i = 0; i < 5; i++) {
                x.person(0, 0, i);
                x.set(4, i, i);
            }
            Checks.textOf(x, "sets day * (1 + missed * 2) - (0 < day) * 4 * (missed = 4); tires 0; grows 0;");
            x.force(1);
            due("film", x.film(3, one, 3), 3);
            int first = one == 4 ? 5 : 1 + 2 * one;
            int second = one == 4 ? 14 : 2 + 4 * one;
            due("hour of the second DAY", x.run(one, 1, 0), first);
            due("hour of the third DAY", x.run(one, 2, 0), second);
            x.sheet(0, 0, 3);
            int[] hours = {0, first, second};
            for (int i = 0; i < 3; i++) {
                due("so far as it's told", x.tells(0, one, 0, 0), i == 0 ? 1 : i);
                x.cell(0, i, hours[i]);
            }
            due("by hand", x.tells(0, one, 0, 0), NONE);
            due("by film", x.tells(3, one, 0, 0), NONE);
        }
    }

    /** Promise 19. */
    private static void drawn() {
        says("`int drawn(int seed, int n)`: DRAWN. BAD: n.");
        AlarmsOfFondness x = persons(1);
        int[] seeds = {MIN, -1, 0, 1, MAX};
        for (int seed : seeds) {
            due("-1", x.drawn(seed, -1), BAD);
            due("0", x.drawn(seed, 0), 0);
            due("40", x.drawn(seed, 40), 40);
            due("41", x.drawn(seed, 41), BAD);
            due("MAX", x.drawn(seed, MAX), BAD);
            due("MIN", x.drawn(seed, MIN), BAD);
        }
    }

    /** Promise 20. */
    private static void chance() {
        says("IN m seeds: part 0 above, 1 below the line, in lowest terms. NO: m, k, part.");
        AlarmsOfFondness x = persons(1);
        int[][] wrong = {{0, 0, 0}, {-1, 0, 0}, {21, 0, 0}, {MAX, 0, 0}, {MIN, 0, 0}, {1, -1, 0}, {1, 100, 0}, {1, MAX, 0},
            {1, MIN, 0}, {1, 0, -1}, {1, 0, 2}, {1, 0, MAX}, {1, 0, MIN}};
        int[] seeds = {MIN, 0, MAX, MAX - 5};
        for (int seed : seeds) {
            for (int[] w : wrong) {
                due("chance(" + w[0] + ", " + w[1] + ", " + w[2] + ")", x.chance(seed, w[0], w[1], w[2]), NO);
            }
            int[] ms = {1, 2, 20};
            for (int m : ms) {
                due("10 or more of " + m, x.chance(seed, m, 10, 0), 1);
                due("10 or more of " + m + ", below", x.chance(seed, m, 10, 1), 1);
                due("11 or more of " + m, x.chance(seed, m, 11, 0), 0);
                due("11 or more of " + m + ", below", x.chance(seed, m, 11, 1), 1);
                due("99 or more of " + m, x.chance(seed, m, 99, 0), 0);
                due("0 or more of " + m, x.chance(seed, m, 0, 0), 1);
            }
        }
    }

    /** Promises 21 and 22. */
    private static void imageAndBack() {
        says("AN IMAGE is kept: how many PEOPLE.");
        for (int many = 0; many <= 5; many++) {
            due("of " + many, persons(many).image(), many);
        }
        says("All that it keeps is as in THE IMAGE: how many PEOPLE. STATE: there is none.");
        AlarmsOfFondness x = new AlarmsOfFondness();
        due("there is none", x.back(), STATE);
        for (int many = 0; many <= 5; many++) {
            AlarmsOfFondness y = persons(many);
            y.image();
            for (int more = many; more < 5; more++) {
                y.person(0, 0, 0);
            }
            due("back to " + many, y.back(), many);
            due("there are", y.count(0), many);
            due("back again", y.back(), many);
        }
        AlarmsOfFondness z = persons(1);
        z.set(0, 0, 999);
        z.image();
        z.set(0, 0, 3);
        z.back();
        due("DAY is 999 again", z.day(), STATE);
    }

    /** Promise 23. */
    private static void count() {
        says("How many: 0 PEOPLE, 1 who have no SETTER, 2 DAY, 3 TEXTS, 4 bytes of THE TAPE, 5 THE RULE. BAD.");
        int[] wrong = {-1, 6, MAX, MIN};
        for (int many = 0; many <= 5; many++) {
            AlarmsOfFondness x = persons(many);
            for (int what : wrong) {
                due("count(" + what + ")", x.count(what), BAD);
            }
            due("PEOPLE", x.count(0), many);
            due("alone", x.count(1), many == 1 ? 1 : 0);
            for (int one = 0; one < many; one++) {
                for (int other = 0; other < many; other++) {
                    x.set(6, 10 * one + other, 0);
                }
            }
            due("none is fond", x.count(1), many);
        }
        AlarmsOfFondness x = new AlarmsOfFondness();
        x.set(0, 0, 999);
        due("DAY", x.count(2), 999);
        for (int i = 1; i <= 5; i++) {
            Checks.textOf(x, WHOLE);
            due("TEXTS", x.count(3), i + 1);
            x.force(i);
            due("THE RULE", x.count(5), i);
        }
        for (int i = 1; i <= 160; i++) {
            x.feed(0);
            due("bytes", x.count(4), i);
        }
    }

    /** Promise 24. */
    private static void sheet() {
        says("A SHEET becomes a row of n of a sort, all 0, or missing (sort -1: n does not matter): 1. "
                + "BAD: no such SHEET, sort; n above 40; -14.");
        AlarmsOfFondness x = new AlarmsOfFondness();
        int[] ns = {MIN, -1, 0, 1, 40, 41, MAX};
        int[] wants = {BELOW_0, BELOW_0, 1, 1, 1, BAD, BAD};
        for (int sheet = -1; sheet <= 4; sheet++) {
            for (int sort = -2; sort <= 3; sort++) {
                for (int i = 0; i < ns.length; i++) {
                    boolean is = sheet >= 0 && sheet <= 3 && sort >= -1 && sort <= 2;
                    due("sheet(" + sheet + ", " + sort + ", " + ns[i] + ")", x.sheet(sheet, sort, ns[i]),
                            !is ? BAD : sort == -1 ? 1 : wants[i]);
                }
            }
        }
        due("sheet(MAX, 0, 0)", x.sheet(MAX, 0, 0), BAD);
        due("sheet(MIN, 0, 0)", x.sheet(MIN, 0, 0), BAD);
        due("sheet(0, MAX, 0)", x.sheet(0, MAX, 0), BAD);
        due("sheet(0, MIN, 0)", x.sheet(0, MIN, 0), BAD);
        x.person(5, 0, 0);
        x.person(0, 0, 0);
        for (int sort = 0; sort < 3; sort++) {
            x.sheet(0, sort, 20);
            for (int i = 0; i < 20; i++) {
                x.cell(0, i, 9);
            }
            due("none is 0", x.tells(0, 1, 0, 0), 0);
            x.sheet(0, sort, 1);
            x.sheet(0, sort, 20);
            due("all are 0", x.tells(0, 1, 0, 0), NONE);
        }
    }

    /** Promise 25. */
    private static void cell() {
        says("BAD: no such SHEET; -11; -12. ## Promise 26: copy");
        AlarmsOfFondness x = new AlarmsOfFondness();
        int[] noSheet = {-1, 4, MAX, MIN};
        int[] places = {MIN, -1, 0, 39, 40, MAX};
        for (int i : places) {
            for (int sheet : noSheet) {
                due("cell(" + sheet + ", " + i + ", 0)", x.cell(sheet, i, 0), BAD);
            }
            due("missing, " + i, x.cell(3, i, 0), NOTHING);
        }
        int[] sizes = {0, 1, 2, 40};
        for (int n : sizes) {
            for (int sort = 0; sort < 3; sort++) {
                x.sheet(3, sort, n);
                for (int i = -2; i <= 42; i++) {
                    due("item " + i + " of " + n, x.cell(3, i, MAX), i >= 0 && i < n ? 1 : OUTSIDE);
                }
                due("item MAX of " + n, x.cell(3, MAX, 0), OUTSIDE);
                due("item MIN of " + n, x.cell(3, MIN, 0), OUTSIDE);
            }
        }
    }

    /** Promise 25. */
    private static void cellBits() {
        says("Item i of a SHEET becomes v (of bytes, shorts its lowest 8, 16 bits): 1.");
        AlarmsOfFondness x = persons(2);
        int[] vs = {7, 7 + 256, 7 - 256, 7 + 65536, 7 - 65536, 7 + (1 << 31), 7 + 128, 7 + 32768, 0};
        int[] lastOfSort = {5, 5, 0};
        for (int sort = 0; sort < 3; sort++) {
            x.sheet(0, sort, 1);
            for (int i = 0; i < vs.length; i++) {
                due("cell", x.cell(0, 0, vs[i]), 1);
                boolean seven = sort == 0 && i <= lastOfSort[0] || sort == 0 && i == 7
                        || sort == 1 && i <= lastOfSort[1] && i != 1 && i != 2 || i == 0;
                due("sort " + sort + ", " + vs[i], x.tells(0, 0, 0, 0), seven ? NONE : 0);
            }
        }
        x.set(6, 10, 0);
        int[] nones = {-1, 255, 65535, 511, MAX};
        int[] bitsOfSort = {0b11111, 0b10101, 0b00001};
        for (int sort = 0; sort < 3; sort++) {
            x.sheet(0, sort, 1);
            for (int i = 0; i < nones.length; i++) {
                x.cell(0, 0, nones[i]);
                due("sort " + sort + ", " + nones[i] + " is NONE", x.tells(0, 0, 0, 0),
                        (bitsOfSort[sort] >> i & 1) == 1 ? NONE : 0);
            }
        }
    }

    /** Promise 26. */
    private static void copy() {
        says("BAD: no such SHEET; -11; -13: they are of unlike sorts; -12 (also with n below 0).");
        AlarmsOfFondness x = new AlarmsOfFondness();
        x.sheet(0, 0, 4);
        x.sheet(1, 1, 4);
        x.sheet(2, 0, 3);
        int[] noSheet = {-1, 4, MAX, MIN};
        for (int s : noSheet) {
            due("from " + s, x.copy(s, 0, 0, 0, 1), BAD);
            due("to " + s, x.copy(0, 0, s, 0, 1), BAD);
            due("from a missing one to " + s, x.copy(3, 0, s, 0, 1), BAD);
            due("from " + s + " to a missing one", x.copy(s, 0, 3, 0, 1), BAD);
        }
        for (int n = -1; n <= 1; n++) {
            due("from a missing one", x.copy(3, 0, 0, 0, n), NOTHING);
            due("to a missing one", x.copy(0, 0, 3, 0, n), NOTHING);
            due("missing both", x.copy(3, 0, 3, 0, n), NOTHING);
            due("unlike sorts", x.copy(0, 0, 1, 0, n), OTHER);
            due("unlike sorts", x.copy(1, 99, 2, -99, n), OTHER);
        }
        int[] edges = {MIN, -1, 0, 1, 2, 3, 4, 5, MAX};
        for (int i : edges) {
            for (int j : edges) {
                for (int n : edges) {
                    boolean in = i >= 0 && j >= 0 && n >= 0 && (long) i + n <= 4 && (long) j + n <= 3;
                    due("copy(0, " + i + ", 2, " + j + ", " + n + ")", x.copy(0, i, 2, j, n), in ? n : OUTSIDE);
                }
            }
        }
        x.sheet(3, 2, 40);
        due("all 40", x.copy(3, 0, 3, 0, 40), 40);
        due("41", x.copy(3, 0, 3, 0, 41), OUTSIDE);
        x.sheet(3, 2, 0);
        due("none of none", x.copy(3, 0, 3, 0, 0), 0);
        due("one of none", x.copy(3, 0, 3, 0, 1), OUTSIDE);
    }

    /** Promise 26: a row over itself, read back by a TEXT that tells each item's hour. */
    private static void copyAsTheyWere() {
        says("n numbers of a SHEET, from item i on, come to another one's item j on (as they were): n.");
        for (int sort = 0; sort < 3; sort++) {
            for (int i = 0; i <= 5; i++) {
                for (int j = 0; j <= 5; j++) {
                    int n = 5 - Math.max(i, j);
                    AlarmsOfFondness x = new AlarmsOfFondness();
                    x.sheet(0, sort, 5);
                    int[] want = new int[5];
                    for (int k = 0; k < 5; k++) {
                        x.cell(0, k, k + 1);
                        want[k] = k >= j && k < j + n ? k - j + i + 1 : k + 1;
                    }
                    due("copy", x.copy(0, i, 0, j, n), n);
                    rowIs(x, want);
                }
            }
        }
        copyFromAnother();
    }

    /** One row is 1 .. 5, the other one 11 .. 15. */
    private static void copyFromAnother() {
        for (int sort = 0; sort < 3; sort++) {
            for (int to = 0; to < 2; to++) {
                for (int i = 0; i <= 5; i++) {
                    for (int j = 0; j <= 5; j++) {
                        AlarmsOfFondness x = new AlarmsOfFondness();
                        int n = Math.min(5 - Math.max(i, j), 3);
                        x.sheet(0, sort, 5);
                        x.sheet(3, sort, 5);
                        int[] want = new int[5];
                        for (int k = 0; k < 5; k++) {
                            x.cell(0, k, 1 + k);
                            x.cell(3, k, 11 + k);
                            want[k] = to * 10 + 1 + k;
                        }
                        for (int k = 0; k < n; k++) {
                            want[j + k] = (1 - to) * 10 + 1 + i + k;
                        }
                        due("copy", x.copy(to == 0 ? 3 : 0, i, to == 0 ? 0 : 3, j, n), n);
                        due("the other row stays", x.copy(to == 0 ? 3 : 0, 0, to == 0 ? 3 : 0, 0, 5), 5);
                        due("and this one", x.copy(to == 0 ? 0 : 3, 0, 0, 0, 5), 5);
                        rowIs(x, want);
                    }
                }
            }
        }
    }

    private static void rowIs(AlarmsOfFondness x, int[] want) {
        x.person(0, 0, 0);
        x.person(0, 0, 0);
        StringBuilder e = new StringBuilder("sets 0");
        for (int k = 0; k < want.length; k++) {
            e.append("+(day=").append(k).append(")*").append(want[k]);
        }
        Checks.textOf(x, e + ";tires 0;grows 0;");
        x.force(1);
        due("the row is as due", x.tells(0, 0, 0, 0), NONE);
    }

    /** Promise 27. */
    private static void court() {
        says("from one on, three by three (as of person()), n of them (0 .. 5): how many came (others are left out).");
        AlarmsOfFondness x = new AlarmsOfFondness();
        x.sheet(0, 2, 40);
        int[] rows = {0, 0, 0, 5, 9, 23, 6, 0, 0, -1, 0, 0, 0, 10, 0, 0, -1, 0, 0, 0, 24, 0, 0, -1, 1, 1, 1};
        for (int i = 0; i < rows.length; i++) {
            x.cell(0, i, rows[i]);
        }
        due("of 0", x.court(0, 2, 0, 0), 0);
        due("nobody came", x.count(0), 0);
        due("wrong ones", x.court(0, 2, 6, 5), 0);
        due("wrong ones and one", x.court(0, 2, 15, 4), 1);
        due("two and wrong ones", x.court(0, 2, 0, 5), 2);
        due("three are there", x.count(0), 3);
        due("the last of them", x.told(2, 7) * 1000 + x.told(2, 1) * 100 + x.told(2, 2), 5923);
        due("two have room", x.court(0, 2, 25, 5), 2);
        due("none has", x.court(0, 2, 25, 5), 0);
        due("none has, wrong ones", x.court(0, 2, 6, 5), 0);
        says("BAD: no such SHEET, sort, n; -13; -11; -12: what stood ahead came.");
        int[][] wrong = {{-1, 2, 0, 1}, {4, 2, 0, 1}, {MAX, 2, 0, 1}, {MIN, 2, 0, 1}, {0, -1, 0, 1}, {0, 3, 0, 1},
            {0, MAX, 0, 1}, {0, MIN, 0, 1}, {0, 2, 0, -1}, {0, 2, 0, 6}, {0, 2, 0, MAX}, {0, 2, 0, MIN}};
        for (int sheet = 0; sheet < 3; sheet++) {
            for (int[] w : wrong) {
                due("court(" + w[0] + ", " + w[1] + ", 99, " + w[3] + ") by " + sheet,
                        x.court(w[0] == 0 ? sheet : w[0], w[1], 99, w[3]), BAD);
            }
        }
        for (int n = 0; n <= 5; n++) {
            due("bytes, of ints", x.court(0, 0, 99, n), OTHER);
            due("shorts, of ints", x.court(0, 1, 99, n), OTHER);
            for (int sort = 0; sort < 3; sort++) {
                due("missing, sort " + sort, x.court(1, sort, 99, n), NOTHING);
            }
        }
    }

    /** Promise 27. */
    private static void courtOutside() {
        says("-12: what stood ahead came.");
        int[] sizes = {0, 1, 2, 3, 5, 6, 8, 40};
        int[] froms = {MIN, MIN + 1, -3, -1, 0, 1, 3, 25, 26, 37, 38, 39, 40, MAX - 5, MAX};
        for (int size : sizes) {
            for (int from : froms) {
                for (int n = 0; n <= 5; n++) {
                    AlarmsOfFondness x = new AlarmsOfFondness();
                    x.sheet(0, 1, size);
                    int room = from < 0 || from > size ? 0 : (size - from) / 3;
                    due("of " + size + " from " + from + ", " + n, x.court(0, 1, from, n), n <= room ? n : OUTSIDE);
                    due("who came", x.count(0), Math.min(n, room));
                }
            }
        }
        AlarmsOfFondness x = persons(4);
        x.sheet(0, 1, 6);
        due("one has room, one hasn't, one is outside", x.court(0, 1, 0, 3), OUTSIDE);
        due("five", x.count(0), 5);
        due("none has, one is outside", x.court(0, 1, 0, 3), OUTSIDE);
    }

    /** Promise 28. */
    private static void taken() {
        says("One of PEOPLE taken for one of KIND k (0 .. 5), or one under that one (also by others between): the NUMBER. "
                + "BAD: k; -11: none such; -13.");
        int[] ks = {-1, 6, MAX, MIN};
        int[] ones = {-1, 6, 5, MAX, MIN};
        for (int many = 0; many <= 5; many++) {
            AlarmsOfFondness x = persons(many);
            for (int k : ks) {
                for (int one = -1; one <= many; one++) {
                    due("taken(" + one + ", " + k + ") of " + many, x.taken(one, k), BAD);
                }
            }
            for (int k = 0; k < 6; k++) {
                for (int one : ones) {
                    due("taken(" + one + ", " + k + ") of " + many, x.taken(one, k), NOTHING);
                }
                due("taken(" + many + ", " + k + ") of " + many, x.taken(many, k), NOTHING);
                if (many > 0) {
                    due("the last", x.taken(many - 1, k), k == 0 ? 0 : OTHER);
                }
            }
        }
        AlarmsOfFondness x = new AlarmsOfFondness();
        x.person(3, 0, 0);
        x.person(4, 9, 0);
        due("a CHILD for a PERSON", x.taken(0, 0), 0);
        due("a CHILD for a MOTHER", x.taken(0, 1), 0);
        due("a CHILD for a HUSBAND", x.taken(0, 2), OTHER);
        due("a DOCTOR for a PERSON", x.taken(1, 0), 9);
        due("a DOCTOR for a HUSBAND", x.taken(1, 2), 9);
        due("a DOCTOR for a MOTHER", x.taken(1, 1), OTHER);
        due("a DOCTOR for a CHILD", x.taken(1, 3), OTHER);
    }

    private static void hostsRefusals() {
        says("the host's: -11 nothing where something is asked, -12 a place outside, "
                + "-13 a thing of another sort or KIND, -14 a size below 0.");
        AlarmsOfFondness x = new AlarmsOfFondness();
        due("nothing", x.cell(0, 0, 0), -11);
        due("nobody", x.taken(0, 0), -11);
        x.sheet(0, 0, 1);
        x.sheet(1, 1, 1);
        due("outside", x.cell(0, 1, 0), -12);
        due("another sort", x.copy(0, 0, 1, 0, 1), -13);
        x.person(0, 0, 0);
        due("another KIND", x.taken(0, 1), -13);
        due("a size below 0", x.sheet(0, 0, -1), -14);
    }

    private static void calls512() {
        says("An object is used for at most 512 calls after it has been made");
        AlarmsOfFondness x = new AlarmsOfFondness();
        for (int i = 1; i <= 511; i++) {
            due("call " + i, x.day(), 0);
        }
        due("call 512", x.count(2), 511);
        AlarmsOfFondness dearest = persons(5);
        Checks.feedAll(dearest, "sets tired + 1 * 2 - 3 < 4 and 5 or not 6 = 7 ; tires 3 ; grows tired < 9 ;");
        dearest.text();
        dearest.force(1);
        dearest.film(0, 0, 20);
        for (int i = 0; i < 420; i++) {
            due("call of the dearest", dearest.tells(0, 0, 1, 3) > 0 ? 1 : 0, 1);
        }
    }
}
