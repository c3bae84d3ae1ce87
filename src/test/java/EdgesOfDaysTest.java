/** The bounds of 'Terms', ==== 2 and ==== 3: SETTER, DAYS, what would be best, what was told, quarrels, SHEETS. */
public final class EdgesOfDaysTest {
    private static final int NONE = -1, BAD = -2, STATE = -3;
    private static final String FULLY_0 = "sets 0; tires 0; grows 0;";
    private static final Edges EDGES = new Edges("EdgesOfDaysTest");

    public static void main(String[] args) {
        setter();
        wakesAndLateBy();
        toldAhead();
        daysOfAllKinds();
        tiredByADay();
        lateByADay();
        fonderByADay();
        notWoken();
        dayIsOneMore();
        daysInThought();
        whatDaysAnswer();
        round();
        othersOfLike();
        othersAtLeastTwo();
        othersLeast();
        dutyOf();
        fonder();
        toldLength();
        toldBits();
        drawnPairs();
        drawnDays();
        inSeeds();
        mean();
        image();
        sheets();
        EDGES.end();
    }

    private static void says(String words) {
        EDGES.says(words);
    }

    private static void due(String call, long got, long want) {
        EDGES.due(call, got, want);
    }

    private static AlarmsOfFondness persons(int many, String text) {
        AlarmsOfFondness x = new AlarmsOfFondness();
        for (int i = 0; i < many; i++) {
            x.person(0, 0, 0);
        }
        if (Checks.textOf(x, text) != 1) {
            due("no text: " + text, 0, 1);
        }
        x.force(1);
        return x;
    }

    private static void nobodyIsFond(AlarmsOfFondness x) {
        int many = x.count(0);
        for (int one = 0; one < many; one++) {
            for (int other = 0; other < many; other++) {
                x.set(6, 10 * one + other, 0);
            }
        }
    }

    private static void setter() {
        says("the one of all others who is FONDEST of that one, above 0; of like ones the first; NONE.");
        AlarmsOfFondness x = persons(1, FULLY_0);
        due("alone", x.told(0, 8), NONE);
        for (int many = 2; many <= 5; many++) {
            x.person(0, 0, 0);
            for (int one = 0; one < many; one++) {
                due(many + " alike, of " + one, x.told(one, 8), one == 0 ? 1 : 0);
            }
        }
        x.set(6, 24, 5);
        due("the fondest", x.told(4, 8), 2);
        x.set(6, 34, 5);
        due("of like ones the first", x.told(4, 8), 2);
        x.set(6, 34, 6);
        due("another fondest", x.told(4, 8), 3);
        x.set(6, 4, 9);
        x.set(6, 14, 9);
        due("the first of 9", x.told(4, 8), 0);
        nobodyIsFond(x);
        due("none above 0", x.told(4, 8), NONE);
        x.set(6, 40, 9);
        due("whom one is fond of is no SETTER", x.told(4, 8), NONE);
        x.set(6, 34, 1);
        due("1 is above 0", x.told(4, 8), 3);
    }

    private static void wakesAndLateBy() {
        says("WAKES: at the hour the SETTER SETS; NONE: there is no SETTER.");
        AlarmsOfFondness x = new AlarmsOfFondness();
        x.person(0, 0, 0);
        due("alone", x.told(0, 9), NONE);
        x.person(5, 0, 0);
        due("at 0", x.told(0, 9), 0);
        x.set(6, 10, 0);
        due("nobody", x.told(0, 9), NONE);
        says("as many hours as one WAKES past DUTY (0 at least; none woken: 0)");
        due("none woken", x.told(0, 10), 0);
        AlarmsOfFondness y = persons(2, "sets tired; tires 0; grows 0;");
        int[] hours = {0, 1, 11, 12, 22, 23};
        for (int hour : hours) {
            y.set(3, 1, hour);
            for (int duty = 0; duty < 24; duty++) {
                y.set(2, 0, duty);
                due("at " + hour + ", duty " + duty, y.told(0, 10), hour > duty ? hour - duty : 0);
            }
        }
    }

    private static void toldAhead() {
        says("of all, told ahead, the SETTER, when one WAKES, LATE BY, TIRES, what it GROWS; then of all by numbers");
        AlarmsOfFondness x = persons(2, "sets tired; tires 9; grows tired;");
        x.day();
        due("0 is tired now", x.told(0, 3), 9);
        due("1 woke by how tired 0 was ahead", x.told(1, 5), 0);
        due("0 grew by how tired it was ahead", x.told(1, 6), 1);
        due("1, too", x.told(10, 6), 1);
        x.day();
        due("1 woke at 9", x.told(1, 5), 9);
        due("0 grew by 9, to the bound", x.told(1, 6), 9);
        AlarmsOfFondness y = persons(3, "sets missed * 5; tires 0; grows missed;");
        nobodyIsFond(y);
        y.set(6, 1, 1);
        y.day();
        due("1 is woken, 0 and 2 missed it", y.told(0, 4) + 10 * y.told(1, 4) + 100 * y.told(2, 4), 101);
    }

    /** What a DAY makes of five of unlike KINDS is what the calls tell ahead of it. */
    private static void daysOfAllKinds() {
        says("of all, told ahead, the SETTER, when one WAKES, LATE BY, TIRES, what it GROWS");
        String[] texts = {"sets duty + fond - 3; tires duty - 9; grows missed - fond;",
            "sets tired + number; tires missed - number; grows duty - 12;",
            "sets day * 5 - duty; tires tired - 60; grows 1 - (duty < 12) * 2;",
            "sets missed + number; tires number * 9; grows tired - number;"};
        for (int i = 0; i < 48; i++) {
            AlarmsOfFondness x = new AlarmsOfFondness();
            for (int one = 0; one < 5; one++) {
                x.person((i + one * 5) % 6, (i * 3 + one * 7) % 10, (i * 5 + one * 11) % 24);
                x.set(3, one, (i * 7 + one * 29) % 100);
                x.set(4, one, (i * 13 + one * 17) % 100);
            }
            for (int of = 1; of < 45; of++) {
                x.set(6, of, (of * (i + 3) + of / 7) % (i % 4 == 0 ? 3 : 10));
            }
            Checks.textOf(x, texts[i / 6 % 4]);
            x.force(1);
            int[] inThought = behindDays(x, 4);
            x.film(0, i % 5, 5);
            for (int day = 0; day < 4; day++) {
                aDayAsTold(x, "round " + i + ", day " + day + ", ");
            }
            int[] truly = behindDays(x, 0);
            for (int k = 0; k < truly.length; k++) {
                due("round " + i + ", in thought: what " + k % 5 + " of " + k / 5, inThought[k], truly[k]);
            }
            x.sheet(1, 0, 1);
            x.copy(0, 4, 1, 0, 1);
            due("round " + i + ", the fifth of the film", x.tells(1, i % 5, 0, 0), NONE);
        }
    }

    private static int[] behindDays(AlarmsOfFondness x, int n) {
        int[] all = new int[25];
        for (int k = 0; k < 25; k++) {
            all[k] = x.run(k / 5, n, k % 5);
        }
        return all;
    }

    private static void aDayAsTold(AlarmsOfFondness x, String when) {
        int[][] want = new int[5][3];
        int[] fond = new int[45];
        int late = 0;
        for (int of = 0; of < 45; of++) {
            fond[of] = x.told(of, 6);
        }
        for (int one = 0; one < 5; one++) {
            int setter = x.told(one, 8);
            int hour = x.told(one, 9);
            int by = Math.max(0, hour - x.told(one, 2));
            due(when + "LATE BY of " + one, x.told(one, 10), by);
            late |= by > 0 ? 1 << one : 0;
            want[one][0] = x.told(one, 3) + (setter == NONE ? -10 : x.woken(one, hour));
            want[one][1] = x.told(one, 4) + (setter == NONE ? 1 : 0);
            want[one][2] = x.told(one, 5) + by;
            if (setter != NONE) {
                int grows = x.asks(setter, one, by > 0 ? 1 : 2);
                fond[10 * setter + one] = Math.max(0, Math.min(9, fond[10 * setter + one] + grows));
            }
        }
        due(when + "who was late", x.day(), late);
        for (int one = 0; one < 5; one++) {
            due(when + "TIRED " + one, x.told(one, 3), Math.max(0, Math.min(99, want[one][0])));
            due(when + "MISSED " + one, x.told(one, 4), Math.min(99, want[one][1]));
            due(when + "LATE " + one, x.told(one, 5), want[one][2]);
        }
        for (int of = 0; of < 45; of++) {
            due(when + "FOND " + of, x.told(of, 6), fond[of]);
        }
    }

    private static void tiredByADay() {
        says("who WAKES is so much more TIRED (0 .. 99, else the bound)");
        int[][] edges = {{0, 0, 0}, {98, 1, 99}, {99, 1, 99}, {99, 99, 99}, {0, 99, 99}, {1, 99, 99}, {1, -1, 0},
            {0, -1, 0}, {0, -99, 0}, {99, -99, 0}, {98, -99, 0}, {50, -49, 1}};
        for (int[] e : edges) {
            AlarmsOfFondness x = persons(2, "sets 0; tires " + e[1] + "; grows 0;");
            x.set(3, 0, e[0]);
            x.day();
            due("TIRED " + e[0] + " by " + e[1], x.told(0, 3), e[2]);
        }
    }

    private static void lateByADay() {
        says("and LATE so much more (9999 at most)");
        int[][] edges = {{9998, 0, 9998}, {9998, 1, 9999}, {9998, 2, 9999}, {9999, 0, 9999}, {9999, 23, 9999},
            {0, 23, 23}, {9976, 23, 9999}, {9977, 23, 9999}, {9975, 23, 9998}};
        for (int[] e : edges) {
            AlarmsOfFondness x = persons(2, "sets " + e[1] + "; tires 0; grows 0;");
            x.set(5, 0, e[0]);
            due("who is late", x.day(), e[1] == 0 ? 0 : 3);
            due("LATE " + e[0] + " by " + e[1], x.told(0, 5), e[2]);
        }
        AlarmsOfFondness x = persons(5, "sets 23; tires 0; grows 0;");
        for (int i = 0; i < 5; i++) {
            x.set(5, i, 9990);
        }
        due("each has its own bound", x.fonder(0, 20, 1), 5 * 9999);
    }

    private static void fonderByADay() {
        says("the SETTER so much FONDER of that one (0 .. 9, else the bound)");
        int[][] edges = {{1, 0, 1}, {8, 1, 9}, {9, 1, 9}, {9, 99, 9}, {1, 99, 9}, {1, -1, 0}, {1, -99, 0}, {9, -9, 0},
            {9, -8, 1}, {9, -10, 0}};
        for (int[] e : edges) {
            AlarmsOfFondness x = persons(3, "sets 0; tires 0; grows " + e[1] + ";");
            nobodyIsFond(x);
            x.set(6, 20, e[0]);
            x.set(6, 2, 4);
            x.day();
            due("FOND " + e[0] + " by " + e[1], x.told(20, 6), e[2]);
            due("that one isn't the fonder", x.told(2, 6), Math.max(0, Math.min(9, 4 + e[1])));
            due("who is no SETTER isn't", x.told(10, 6), 0);
        }
        for (int duty = 0; duty < 24; duty++) {
            AlarmsOfFondness mother = new AlarmsOfFondness();
            mother.person(1, 0, 0);
            mother.person(0, 0, duty);
            Checks.textOf(mother, "sets 9; tires 0; grows 3;");
            mother.force(1);
            mother.day();
            due("a MOTHER of who wakes at 11, duty " + duty, mother.told(1, 6), duty < 11 ? 1 : 4);
        }
        AlarmsOfFondness child = new AlarmsOfFondness();
        child.person(3, 0, 0);
        child.person(0, 0, 23);
        Checks.textOf(child, "sets 0; tires 0; grows 99;");
        child.force(1);
        child.day();
        due("by 100", child.told(1, 6), 9);
    }

    private static void notWoken() {
        says("who isn't woken is 10 less TIRED (0 at least), and has MISSED it once more (99 at most)");
        int[][] edges = {{99, 89}, {11, 1}, {10, 0}, {9, 0}, {1, 0}, {0, 0}};
        for (int[] e : edges) {
            AlarmsOfFondness x = persons(1, "sets 23; tires 50; grows 9;");
            x.set(3, 0, e[0]);
            due("who is late", x.day(), 0);
            due("TIRED " + e[0], x.told(0, 3), e[1]);
            due("not LATE", x.told(0, 5), 0);
        }
        int[][] missed = {{0, 1}, {97, 98}, {98, 99}, {99, 99}};
        for (int[] e : missed) {
            AlarmsOfFondness x = persons(1, FULLY_0);
            x.set(4, 0, e[0]);
            x.day();
            due("MISSED " + e[0], x.told(0, 4), e[1]);
        }
        AlarmsOfFondness x = persons(5, FULLY_0);
        nobodyIsFond(x);
        for (int i = 0; i < 5; i++) {
            x.set(4, i, 98);
        }
        due("each has its own bound", x.run(0, 40, 4), 5 * 99);
        AlarmsOfFondness woken = persons(2, FULLY_0);
        woken.day();
        due("who WAKES has not MISSED it", woken.told(0, 4), 0);
    }

    private static void dayIsOneMore() {
        says("DAY is 1 more.");
        AlarmsOfFondness x = new AlarmsOfFondness();
        due("nobody", x.day(), 0);
        due("from 0", x.count(2), 1);
        x.set(0, 0, 998);
        due("the last", x.day(), 0);
        due("from 998", x.count(2), 999);
        due("no more", x.day(), STATE);
        due("it stays", x.count(2), 999);
    }

    private static void daysInThought() {
        says("n DAYS (0 .. 40), in thought (there DAY may pass 999)");
        AlarmsOfFondness x = persons(2, "sets day - 1020; tires 1; grows 0;");
        x.set(0, 0, 999);
        due("0 DAYS", x.run(0, 0, 1), 0);
        due("1 DAY", x.run(0, 1, 1), 1);
        due("40 DAYS", x.run(0, 40, 1), 40);
        due("DAY 1039", x.run(0, 40, 0), 19);
        due("DAY 1021", x.run(0, 22, 0), 1);
        due("41 DAYS", x.run(0, 41, 1), BAD);
        due("-1 DAYS", x.run(0, -1, 1), BAD);
        due("duty, past 999", x.duty(0, 20, 1), 0);
        due("fonder, past 999", x.fonder(0, 20, 1), 0);
        due("film, past 999", x.film(0, 0, 20), 20);
        due("tells, past 999", x.tells(0, 0, 0, 0), NONE);
        due("drawn, past 999", persons(1, FULLY_0).drawn(0, 40), 40);
        due("DAY is as it was", x.count(2), 999);
        due("TIRED is as it was", x.told(0, 3), 0);
        AlarmsOfFondness late = persons(2, "sets (1000 < day) * 9; tires 0; grows 0;");
        late.set(0, 0, 999);
        due("DAYS 999 .. 1001", late.run(0, 3, 2), 9);
        due("together", late.fonder(0, 3, 1), 18);
    }

    private static void whatDaysAnswer() {
        says("when one WAKES then (NONE); how TIRED; how LATE; how many are LATE BY any then; MISSED of all, together.");
        AlarmsOfFondness x = persons(5, "sets 9; tires 0; grows -1;");
        x.set(6, 10, 2);
        x.set(4, 3, 7);
        int[] wakes = {9, 9, 9, 9, 9, NONE, NONE};
        int[] late = {0, 9, 18, 27, 36, 45, 45};
        int[] many = {5, 5, 5, 5, 1, 0, 0};
        int[] missed = {7, 7, 7, 7, 7, 11, 16};
        for (int n = 0; n < 7; n++) {
            due(n + ": WAKES", x.run(0, n, 0), wakes[n]);
            due(n + ": LATE", x.run(0, n, 2), late[n]);
            due(n + ": how many", x.run(0, n, 3), many[n]);
            due(n + ": MISSED", x.run(0, n, 4), missed[n]);
        }
    }

    private static void round() {
        says("behind how many steps one comes to one that has been, oneself at first (1 .. 5); NONE: to one without.");
        for (int many = 2; many <= 5; many++) {
            AlarmsOfFondness x = persons(many, FULLY_0);
            nobodyIsFond(x);
            for (int one = 0; one < many; one++) {
                x.set(6, 10 * ((one + 1) % many) + one, 3);
            }
            for (int one = 0; one < many; one++) {
                due("a ring of " + many, x.round(one), many);
            }
            x.set(6, 1, 9);
            x.set(6, 10, 9);
            due("0 and 1", x.round(0), 2);
            due("from the last", x.round(many - 1), many == 2 ? 2 : 3);
            x.set(6, 1, 0);
            for (int one = 0; one < many; one++) {
                x.set(6, 10 * one + 1, 0);
            }
            due("to 1, who has nobody", x.round(0), NONE);
            due("1 itself", x.round(1), NONE);
            due("from the last to 1", x.round(many - 1), NONE);
        }
        AlarmsOfFondness five = persons(5, FULLY_0);
        nobodyIsFond(five);
        int[] chain = {10, 21, 32, 43, 34};
        for (int of : chain) {
            five.set(6, of, 1);
        }
        due("0, 1, 2, 3, 4, and 3 again", five.round(0), 5);
        due("3 and 4", five.round(3), 2);
        due("alone", persons(1, FULLY_0).round(0), NONE);
        allRounds();
    }

    /** All that four can have as SETTERS, none with them. */
    private static void allRounds() {
        for (int way = 0; way < 256; way++) {
            AlarmsOfFondness x = persons(4, FULLY_0);
            nobodyIsFond(x);
            int[] setter = new int[4];
            for (int one = 0; one < 4; one++) {
                int by = way >> 2 * one & 3;
                setter[one] = by == one ? NONE : by;
                x.set(6, 10 * by + one, 5);
            }
            for (int one = 0; one < 4; one++) {
                boolean[] been = new boolean[4];
                int now = one;
                int steps = 0;
                while (now != NONE && !been[now]) {
                    been[now] = true;
                    now = setter[now];
                    steps++;
                }
                due("way " + way + " from " + one, x.round(one), now == NONE ? NONE : steps);
            }
        }
    }

    private static void othersOfLike() {
        says("of like ones the first by whose clock 0 sets, then 1, ..; as digits (1 more than each, "
                + "that of 0 the highest); how much");
        int[] first = {0, 0, 21, 231, 2143, 21453};
        for (int many = 2; many <= 5; many++) {
            AlarmsOfFondness x = persons(many, "sets 5; tires 0; grows 0;");
            due("all alike, " + many, x.others(0), first[many]);
            due("how much", x.others(1), 5 * many);
        }
        AlarmsOfFondness x = persons(4, "sets fond; tires 0; grows 0;");
        x.set(6, 1, 2);
        due("0 sets 2's (312.), then 1 0's: 3142", x.others(0), 3142);
        due("how much", x.others(1), 4);
        x.set(6, 2, 2);
        due("0 sets 3's, then 1 0's, then 2 1's", x.others(0), 4123);
        x.set(6, 3, 2);
        due("all of 0 alike again", x.others(0), 2143);
        due("how much", x.others(1), 5);
        for (int one = 0; one < 4; one++) {
            x.set(2, one, 2);
        }
        due("none is late", x.others(1), 0);
        due("the first", x.others(0), 2143);
    }

    private static void othersAtLeastTwo() {
        says("NONE both: fewer than two.");
        AlarmsOfFondness x = new AlarmsOfFondness();
        for (int many = 0; many < 2; many++) {
            due("of " + many, x.others(0), NONE);
            due("of " + many, x.others(1), NONE);
            x.person(0, 0, 23);
        }
        due("of two", x.others(0), 21);
        due("of two", x.others(1), 0);
        says("all ways in which each of PEOPLE sets just one other one's clock, no two the same one's");
        nobodyIsFond(x);
        x.set(2, 0, 5);
        due("who is fond of nobody sets one, too", x.others(0), 21);
        due("to 6", x.others(1), 1);
    }

    /** All orders of five are gone through here; the class's own hours are asked. */
    private static void othersLeast() {
        says("that by which LATE BY, together, is least now");
        for (int round = 0; round < 60; round++) {
            AlarmsOfFondness x = new AlarmsOfFondness();
            int many = 2 + round % 4;
            for (int i = 0; i < many; i++) {
                x.person((round + i * 5) % 6, (round * 3 + i) % 10, (round * 7 + i * 11) % 24);
            }
            for (int of = 0; of < 45; of++) {
                x.set(6, of, (of * (round + 1) + of / 7) % 10);
            }
            x.set(0, 0, round);
            int[] best = {Integer.MAX_VALUE, NONE};
            leastOf(x, many, new int[many], 0, best);
            due("round " + round, x.others(0), best[1]);
            due("round " + round + ", how much", x.others(1), best[0]);
        }
    }

    private static void leastOf(AlarmsOfFondness x, int many, int[] whose, int at, int[] best) {
        if (at < many) {
            for (whose[at] = 0; whose[at] < many; whose[at]++) {
                leastOf(x, many, whose, at + 1, best);
            }
            return;
        }
        int late = 0;
        int digits = 0;
        int used = 0;
        for (int one = 0; one < many; one++) {
            if (whose[one] == one) {
                return;
            }
            late += Math.max(0, x.asks(one, whose[one], 0) - x.told(whose[one], 2));
            digits = digits * 10 + whose[one] + 1;
            used |= 1 << whose[one];
        }
        if (used == (1 << many) - 1 && late < best[0]) {
            best[0] = late;
            best[1] = digits;
        }
    }

    private static void dutyOf() {
        says("the DUTY (0 .. 23) by which LATE of all, together, would be least behind n DAYS (0 .. 20); "
                + "of like ones the first; how much.");
        AlarmsOfFondness x = persons(2, "sets 23; tires 0; grows 0;");
        due("the last DUTY", x.duty(0, 1, 0), 23);
        due("1's hours", x.duty(0, 1, 1), 23);
        due("20 DAYS", x.duty(0, 20, 1), 460);
        due("21 DAYS", x.duty(0, 21, 1), BAD);
        due("-1 DAYS", x.duty(0, -1, 1), BAD);
        due("0 DAYS: all alike", x.duty(0, 0, 0), 0);
        due("0 DAYS", x.duty(0, 0, 1), 0);
        due("the DUTY stays", x.told(0, 2), 0);
        AlarmsOfFondness y = persons(2, "sets 22 * (duty < 7) + 22 * (8 < duty) + 3; tires 0; grows 0;");
        due("7 and 8 alike", y.duty(0, 3, 0), 7);
        AlarmsOfFondness first = persons(2, FULLY_0);
        first.set(2, 0, 9);
        due("the first DUTY, not that it has", first.duty(0, 3, 0), 0);
        AlarmsOfFondness full = persons(2, "sets 23; tires 0; grows 0;");
        full.set(5, 0, 9999);
        full.set(5, 1, 9999);
        due("all alike at the bound", full.duty(0, 20, 0), 0);
        due("how much", full.duty(0, 20, 1), 19998);
        AlarmsOfFondness noMore = persons(2, "sets tired; tires -99 * (23 < duty); grows 0;");
        noMore.set(3, 0, 23);
        due("24 is no DUTY", noMore.duty(0, 2, 0), 0);
        due("24 is no DUTY", noMore.duty(0, 2, 1), 46);
        AlarmsOfFondness alone = persons(1, FULLY_0);
        due("not woken", alone.duty(0, 20, 0), 0);
        due("not woken", alone.duty(0, 20, 1), 0);
    }

    private static void fonder() {
        says("FONDER (one, n 0 .. 20): of whom that one, being 9 FOND of that other one now, would make LATE of all, "
                + "together, least behind n DAYS, if less than so; of like ones the first; NONE; how much (as so).");
        AlarmsOfFondness x = new AlarmsOfFondness();
        for (int i = 0; i < 4; i++) {
            x.person(0, 0, 3);
        }
        x.person(5, 3, 3);
        due("the QUEEN of 0, 1, 2, 3: all alike", x.fonder(4, 2, 0), 0);
        due("4 hours of four of five, twice", x.fonder(4, 2, 1), 4 * 4 * 2);
        x.set(2, 2, 1);
        due("2: 4 hours less, too, being late 2", x.fonder(4, 2, 0), 0);
        x.set(2, 2, 6);
        x.set(2, 0, 6);
        due("0 and 2 late by 1 alone: of 1", x.fonder(4, 2, 0), 1);
        due("20 DAYS", x.fonder(4, 20, 1), 20 * (1 + 0 + 1 + 4 + 4));
        due("21 DAYS", x.fonder(4, 21, 1), BAD);
        due("-1 DAYS", x.fonder(4, -1, 1), BAD);
        due("0 DAYS: not less", x.fonder(4, 0, 0), NONE);
        due("0 DAYS: as so", x.fonder(4, 0, 1), 0);
        due("a PERSON of another: the same or worse", x.fonder(1, 2, 0), NONE);
        due("as so", x.fonder(1, 2, 1), 2 * (1 + 4 + 1 + 4 + 4));
        due("fondness stays", x.told(41, 6), 1);
        due("alone", persons(1, FULLY_0).fonder(0, 20, 0), NONE);
        due("alone", persons(1, FULLY_0).fonder(0, 20, 1), 0);
        nineFond();
        fonderOfEach();
    }

    /** Each one of five may be whom each other one had best be fonder of, be it by one hour alone. */
    private static void fonderOfEach() {
        for (int one = 0; one < 5; one++) {
            for (int best = 0; best < 5; best++) {
                AlarmsOfFondness x = new AlarmsOfFondness();
                for (int i = 0; i < 5; i++) {
                    x.person(i == one ? 5 : 0, i == one ? 6 : 0, i == best ? 6 : 23);
                }
                boolean two = one != best;
                boolean already = one == 0 || one == 1 && best == 0;
                due(one + " fonder of " + best + ", late by 1", x.fonder(one, 1, 0), two && !already ? best : NONE);
                due("how much", x.fonder(one, 1, 1), two ? 0 : 1);
                x.set(2, best, 5);
                due("by 1, late by 2", x.fonder(one, 1, 0), two && !already ? best : NONE);
                due("how much", x.fonder(one, 1, 1), two ? 1 : 2);
                if (two) {
                    x.set(1, one, 7);
                    due("no less late", x.fonder(one, 1, 0), NONE);
                    due("as so", x.fonder(one, 1, 1), 2);
                }
            }
        }
    }

    /** Neither less nor more than 9 FOND. */
    private static void nineFond() {
        AlarmsOfFondness x = persons(3, "sets 20 - fond; tires 0; grows 0;");
        x.set(2, 0, 23);
        x.set(2, 2, 23);
        due("being 9 FOND, one wakes that other one at 11", x.fonder(2, 1, 1), 11);
        due("of 1", x.fonder(2, 1, 0), 1);
        int[] ofZero = {7, 8, 9};
        for (int fond : ofZero) {
            AlarmsOfFondness queen = new AlarmsOfFondness();
            queen.person(0, 0, 23);
            queen.person(0, 0, 0);
            queen.person(5, 0, 23);
            queen.set(6, 1, fond);
            due("9 is more than " + fond, queen.fonder(2, 3, 0), fond < 9 ? 1 : NONE);
            due("how much", queen.fonder(2, 3, 1), fond < 9 ? 0 : 45);
        }
    }

    private static void toldLength() {
        says("a SHEET tells when one WAKES on this DAY, the next one, .. (NONE; 20 at most): "
                + "the first (from 0) that is otherwise; NONE");
        AlarmsOfFondness x = persons(2, "sets day; tires 0; grows 0;");
        x.sheet(0, 2, 20);
        for (int i = 0; i < 20; i++) {
            due("otherwise at " + i, x.tells(0, 0, 0, 0), i == 0 ? 1 : i);
            x.cell(0, i, i);
        }
        due("all 20 so", x.tells(0, 0, 0, 0), NONE);
        x.cell(0, 19, 18);
        due("the last otherwise", x.tells(0, 0, 0, 0), 19);
        x.cell(0, 0, 1);
        due("the first and the last", x.tells(0, 0, 0, 0), 0);
        x.sheet(0, 2, 21);
        due("21", x.tells(0, 0, 0, 0), BAD);
        x.sheet(0, 2, 40);
        due("40", x.tells(0, 0, 0, 0), BAD);
        x.sheet(0, 2, 0);
        due("none", x.tells(0, 0, 0, 0), NONE);
        x.set(6, 10, 0);
        x.sheet(0, 2, 1);
        x.cell(0, 0, -1);
        due("not woken, as told", x.tells(0, 0, 0, 0), NONE);
        x.cell(0, 0, -2);
        due("-2 is no NONE", x.tells(0, 0, 0, 0), 0);
        due("by no kind", x.tells(0, 0, 1, 1), 0);
    }

    private static void toldBits() {
        says("KINDS (bits 0 .. 5), NUMBERS (bits 0 .. 9), how TIRED (of 0 .. 99: how many, the least), "
                + "DUTIES (bits 0 .. 23) of this one, by which it would be so; TEXTS (bits), were they THE RULE; "
                + "PEOPLE (bits) of whom it is so.");
        AlarmsOfFondness x = new AlarmsOfFondness();
        for (int i = 0; i < 5; i++) {
            x.person(0, 0, 0);
            Checks.textOf(x, "sets tired * 2; tires 0; grows 0;");
        }
        x.sheet(0, 0, 0);
        int[] all = {NONE, 63, 1023, 100, 0, (1 << 24) - 1, 63, 31};
        for (int what = 0; what < 8; what++) {
            due("nothing told, " + what, x.tells(0, 1, 3, what), all[what]);
        }
        x.sheet(0, 0, 1);
        x.cell(0, 0, 24);
        int[] none = {0, 0, 0, 0, NONE, 0, 0, 0};
        for (int what = 0; what < 8; what++) {
            due("no hour, " + what, x.tells(0, 1, 3, what), none[what]);
        }
        x.force(5);
        x.cell(0, 0, 0);
        due("TIRED 0 of 0", x.tells(0, 1, 0, 3), 1);
        due("the least", x.tells(0, 1, 0, 4), 0);
        x.cell(0, 0, 23);
        due("TIRED 12 .. 99 of 0", x.tells(0, 1, 0, 3), 88);
        due("the least", x.tells(0, 1, 0, 4), 12);
        bitsAtTheirEnds();
    }

    private static void bitsAtTheirEnds() {
        AlarmsOfFondness queen = new AlarmsOfFondness();
        queen.person(5, 3, 0);
        queen.person(4, 0, 0);
        queen.sheet(0, 1, 1);
        for (int v = 0; v <= 10; v++) {
            queen.cell(0, 0, v);
            due("the QUEEN's number " + v, queen.tells(0, 1, 0, 2), v < 10 ? 1 << v : 0);
        }
        for (int v = 0; v <= 24; v++) {
            queen.cell(0, 0, v);
            due("the DUTY by which the DOCTOR wakes at " + v, queen.tells(0, 0, 1, 5), v < 24 ? 1 << v : 0);
            due("whose wakes at " + v, queen.tells(0, 0, 1, 7), (v == 0 ? 1 : 0) + (v == 3 ? 2 : 0));
        }
        AlarmsOfFondness last = persons(2, "sets 5 + 7 * (98 < tired); tires 0; grows 0;");
        last.sheet(0, 0, 1);
        last.cell(0, 0, 12);
        due("TIRED 99 alone", last.tells(0, 0, 1, 3), 1);
        due("the least", last.tells(0, 0, 1, 4), 99);
        due("of TEXTS the last", last.tells(0, 0, 1, 6), 0);
        last.set(3, 1, 99);
        due("of TEXTS the last", last.tells(0, 0, 1, 6), 2);
        AlarmsOfFondness both = persons(2, "sets tired; tires 0; grows tired;");
        both.sheet(0, 0, 1);
        both.cell(0, 0, 12);
        due("TIRED 12 alone", both.tells(0, 0, 1, 3), 1);
        due("the least", both.tells(0, 0, 1, 4), 12);
        tiredByFondness();
        AlarmsOfFondness kinds = persons(2, "sets 4; tires 0; grows 0;");
        kinds.set(0, 0, 1);
        kinds.set(1, 1, 9);
        kinds.sheet(0, 0, 1);
        int[] byHour = {0, 0, 0b10100, 0, 0b1, 0, 0b10, 0, 0, 0b101000};
        for (int hour = 0; hour < byHour.length; hour++) {
            kinds.cell(0, 0, hour);
            due("KINDS by " + hour, kinds.tells(0, 0, 1, 1), byHour[hour]);
        }
    }

    /** How TIRED one is now is seen in a later hour, by GROWS alone. */
    private static void tiredByFondness() {
        AlarmsOfFondness x = persons(3, "sets 5 + fond; tires 0; grows tired;");
        x.sheet(0, 1, 2);
        x.cell(0, 0, 6);
        int[] many = {0, 1, 1, 1, 1, 1, 1, 1, 1, 92, 0};
        for (int i = 0; i < many.length; i++) {
            x.cell(0, 1, 5 + i);
            due("6, then " + (5 + i), x.tells(0, 1, 0, 3), many[i]);
            due("the least", x.tells(0, 1, 0, 4), many[i] == 0 ? NONE : i - 1);
            due("of who sets another's clock", x.tells(0, 1, 2, 3), i == 1 ? 100 : 0);
        }
    }

    /** For each two numbers below 8 a SEED that draws them first; the second number is that of who isn't loved. */
    private static void drawnPairs() {
        says("ahead of each who is numbered (z >>> 9) % 8 isn't FOND (0) of who is numbered (y >>> 9) % 8, "
                + "if these are two that are there (z, then y, each being the last one * 1103515245 + 12345, an int; "
                + "SEED at first)");
        boolean[] seen = new boolean[64];
        for (int i = 0; i < 1000; i++) {
            int seed = i % 2 == 0 ? i : -i * 1000003;
            int z = seed * 1103515245 + 12345;
            int y = z * 1103515245 + 12345;
            int a = (z >>> 9) % 8;
            int b = (y >>> 9) % 8;
            if (!seen[8 * a + b]) {
                seen[8 * a + b] = true;
                for (int many = 0; many <= 5; many++) {
                    onePair(seed, a, b, many);
                }
            }
        }
        int found = 0;
        for (boolean s : seen) {
            found += s ? 1 : 0;
        }
        due("pairs", found, 64);
        pairsByLastBits();
    }

    /** Of z and of y the last nine bits are cut, all of them 0 or 1 here. */
    private static void pairsByLastBits() {
        int pairs = 0;
        for (int seed = -40000; seed < 40000; seed++) {
            int z = seed * 1103515245 + 12345;
            int y = z * 1103515245 + 12345;
            int a = (z >>> 9) % 8;
            int b = (y >>> 9) % 8;
            boolean edge = (z + 1 & 511) < 2 || (y + 1 & 511) < 2;
            if (edge && a < 5 && b < 5 && a != b) {
                pairs++;
                onePair(seed, a, b, 5);
            }
        }
        due("some are drawn", pairs > 50 ? 1 : 0, 1);
    }

    /** Of many just two are fond, 0 of 1 and 1 of 0, or those that are drawn. */
    private static void onePair(int seed, int a, int b, int many) {
        boolean two = a < many && b < many && a != b;
        AlarmsOfFondness x = persons(many, FULLY_0);
        due(a + ", " + b + " of " + many + ", no DAY", x.drawn(seed, 0), 0);
        if (many < 2) {
            due(a + ", " + b + " of " + many, x.drawn(seed, 1), many);
            return;
        }
        nobodyIsFond(x);
        if (two) {
            x.set(6, 10 * a + b, 9);
            x.set(6, 10 * b + a, 9);
            due(a + ", " + b + " of " + many, x.drawn(seed, 1), many - 1);
            x.set(6, 10 * b + a, 0);
            due("that way alone", x.drawn(seed, 1), many);
            due("it stays", x.told(10 * a + b, 6), 9);
        } else {
            x.set(6, 1, 9);
            x.set(6, 10, 9);
            due(a + ", " + b + " of " + many, x.drawn(seed, 1), many - 2);
        }
    }

    private static void drawnDays() {
        says("DRAWN by a SEED: n DAYS (0 .. 40), in thought");
        AlarmsOfFondness x = persons(1, FULLY_0);
        x.set(0, 0, 999);
        int[] seeds = {0, -1, Integer.MAX_VALUE, Integer.MIN_VALUE};
        for (int seed : seeds) {
            due("0 DAYS", x.drawn(seed, 0), 0);
            due("1 DAY", x.drawn(seed, 1), 1);
            due("40 DAYS", x.drawn(seed, 40), 40);
            due("41 DAYS", x.drawn(seed, 41), BAD);
            due("-1 DAYS", x.drawn(seed, -1), BAD);
        }
        x.set(4, 0, 80);
        due("99 at most", x.drawn(0, 40), 99);
        due("in thought", x.told(0, 4), 80);
        for (int seed = -50; seed < 50; seed++) {
            for (int n = 0; n <= 40; n += 10) {
                due("five, SEED " + seed, persons(5, FULLY_0).drawn(seed, n), missedOfFive(seed, n));
            }
        }
        says("MISSED of all, together, then.");
        due("nobody", new AlarmsOfFondness().drawn(5, 40), 0);
        AlarmsOfFondness five = persons(5, FULLY_0);
        nobodyIsFond(five);
        five.set(4, 2, 3);
        due("five", five.drawn(0, 7), 38);
    }

    /** Five who are all fond at first, and by whose days fondness doesn't grow. */
    private static int missedOfFive(int seed, int n) {
        boolean[] quarrel = new boolean[64];
        int last = seed;
        int missed = 0;
        for (int i = 0; i < n; i++) {
            last = last * 1103515245 + 12345;
            int who = (last >>> 9) % 8;
            last = last * 1103515245 + 12345;
            quarrel[8 * who + (last >>> 9) % 8] = true;
            for (int one = 0; one < 5; one++) {
                boolean woken = false;
                for (int other = 0; other < 5; other++) {
                    woken |= other != one && !quarrel[8 * other + one];
                }
                missed += woken ? 0 : 1;
            }
        }
        return missed;
    }

    private static void inSeeds() {
        says("IN m seeds (1 .. 20), SEED and each 1 more (an int), 10 DAYS: of these those by which that is k (0 .. 99) "
                + "or more.");
        AlarmsOfFondness x = persons(5, FULLY_0);
        nobodyIsFond(x);
        for (int i = 0; i < 5; i++) {
            x.set(6, 10 * i + (i + 1) % 5, 1);
        }
        int seed = Integer.MAX_VALUE - 9;
        int unlike = 0;
        for (int m = 1; m <= 20; m++) {
            for (int k = 0; k <= 50; k++) {
                int above = 0;
                for (int i = 0; i < m; i++) {
                    above += x.drawn(seed + i, 10) >= k ? 1 : 0;
                }
                unlike += above > 0 && above < m ? 1 : 0;
                int common = common(above, m);
                due(m + " seeds, " + k + " or more", x.chance(seed, m, k, 0), above / common);
                due(m + " seeds, " + k + " or more, below", x.chance(seed, m, k, 1), m / common);
            }
        }
        due("some seeds are unlike others", unlike > 100 ? 1 : 0, 1);
        nobodyIsFond(x);
        due("50 or more", x.chance(seed, 20, 50, 0), 1);
        due("51 or more", x.chance(seed, 20, 51, 0), 0);
        x.set(4, 0, 39);
        due("39 before, 10 DAYS of five", x.chance(seed, 20, 89, 0), 1);
        due("90 or more", x.chance(seed, 20, 90, 0), 0);
        x.set(4, 0, 49);
        due("99 or more", x.chance(seed, 1, 99, 0), 1);
        x.set(4, 0, 48);
        due("98 is less", x.chance(seed, 1, 99, 0), 0);
    }

    private static int common(int a, int b) {
        return b == 0 ? a : common(b, a % b);
    }

    private static void mean() {
        says("MEAN: LATE of all, together, by how many there are.");
        int[][] edges = {{1, 0, 0, 1}, {1, 9999, 9999, 1}, {5, 0, 0, 1}, {5, 9999, 9999, 5}, {4, 9998, 4999, 2},
            {2, 9999, 9999, 2}, {5, 9995, 1999, 1}, {3, 9999, 3333, 1}};
        for (int[] e : edges) {
            AlarmsOfFondness x = persons(e[0], FULLY_0);
            x.set(5, e[0] - 1, e[1]);
            due(e[1] + " by " + e[0] + ", above", x.mean(0), e[2]);
            due(e[1] + " by " + e[0] + ", below", x.mean(1), e[3]);
        }
        AlarmsOfFondness x = persons(5, FULLY_0);
        for (int i = 0; i < 5; i++) {
            x.set(5, i, 9999);
        }
        due("all at the bound", x.mean(0), 9999);
        due("all at the bound", x.mean(1), 1);
    }

    private static void image() {
        says("AN IMAGE keeps DAY, NUMBERS, DUTIES, how TIRED, MISSED, LATE, FOND of all, THE RULE "
                + "(PEOPLE that came since go).");
        int[] kept = {999, 9, 23, 99, 98, 9999, 9};
        AlarmsOfFondness x = persons(2, "sets 1; tires 1; grows 1;");
        for (int what = 0; what < 7; what++) {
            x.set(what, what == 6 ? 10 : 1, kept[what]);
        }
        due("image", x.image(), 2);
        for (int what = 0; what < 7; what++) {
            x.set(what, what == 6 ? 10 : 1, 0);
        }
        x.force(0);
        for (int i = 2; i < 5; i++) {
            due("comes", x.person(1, 1, 1), i);
            for (int what = 3; what < 6; what++) {
                x.set(what, i, 77);
            }
            x.set(6, 10 * i, 5);
            x.set(6, i, 0);
        }
        due("back", x.back(), 2);
        for (int what = 0; what < 7; what++) {
            due("kept " + what, x.told(what == 6 ? 10 : 1, what), kept[what]);
        }
        due("THE RULE", x.count(5), 1);
        for (int i = 2; i < 5; i++) {
            due("gone", x.told(i, 7), -1000);
        }
        due("comes again", x.person(2, 1, 1), 2);
        for (int what = 3; what < 6; what++) {
            due("with nothing of who went: " + what, x.told(2, what), 0);
        }
        due("fond of all", x.told(20, 6) + x.told(21, 6), 2);
        due("and by all", x.told(2, 6) + x.told(12, 6), 2);
        AlarmsOfFondness empty = new AlarmsOfFondness();
        due("of nobody", empty.image(), 0);
        for (int i = 0; i < 5; i++) {
            empty.person(0, 0, 0);
        }
        due("all go", empty.back(), 0);
        due("nobody", empty.count(0), 0);
        due("numbered from 0 again", empty.person(0, 0, 0), 0);
    }

    private static void sheets() {
        says("SHEETS 0 .. 3 are rows of numbers, or missing (as all are at first): of sort 0 bytes, 1 shorts, 2 ints.");
        AlarmsOfFondness x = new AlarmsOfFondness();
        for (int sheet = 0; sheet < 4; sheet++) {
            due("missing", x.cell(sheet, 0, 0), -11);
            due("sort -2", x.sheet(sheet, -2, 1), BAD);
            due("sort 3", x.sheet(sheet, 3, 1), BAD);
            for (int sort = 0; sort < 3; sort++) {
                due("sort " + sort, x.sheet(sheet, sort, 1), 1);
                for (int other = 0; other < 3; other++) {
                    due(sort + " as " + other, x.court(sheet, other, 0, 0), sort == other ? 0 : -13);
                }
            }
            due("missing again", x.sheet(sheet, -1, 1), 1);
            due("missing", x.cell(sheet, 0, 0), -11);
        }
        due("SHEET -1", x.sheet(-1, 0, 1), BAD);
        due("SHEET 4", x.sheet(4, 0, 1), BAD);
    }
}
