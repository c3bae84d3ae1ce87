/** Promises 10 to 12: day, run, round. */
public final class DaysTest {
    private static final int NONE = -1, BAD = -2, STATE = -3;
    private static final Checks CHECKS = new Checks("DaysTest");

    public static void main(String[] args) {
        aDay();
        aDayWithoutAnybody();
        toldAhead();
        bounds();
        whoIsNotWoken();
        whoIsNotWokenAnyMore();
        growingByLateness();
        lastDay();
        run();
        runChangesNothing();
        runPastTheLastDay();
        runRefuses();
        round();
        CHECKS.end();
    }

    private static void due(String what, long got, long want) {
        CHECKS.due(what, got, want);
    }

    private static AlarmsOfFondness ruledBy(String text) {
        AlarmsOfFondness x = new AlarmsOfFondness();
        due(text, Checks.textOf(x, text), 1);
        x.force(1);
        return x;
    }

    /** Each sets the other one's clock to 7. */
    private static void aDay() {
        AlarmsOfFondness x = ruledBy("sets 6 + fond; tires 4; grows 2;");
        x.person(0, 0, 5);
        x.person(0, 0, 7);
        due("0 was late", x.day(), 1);
        due("DAY", x.told(0, 0), 1);
        due("0 is 2 late", x.told(0, 5), 2);
        due("1 isn't", x.told(1, 5), 0);
        due("0 is tired", x.told(0, 3), 4);
        due("1 is tired", x.told(1, 3), 4);
        due("1 is fonder of 0", x.told(10, 6), 3);
        due("0 is fonder of 1", x.told(1, 6), 3);
        due("nobody missed it", x.told(0, 4), 0);
        due("both were late at 9", x.day(), 3);
        due("0 is 4 later", x.told(0, 5), 6);
        due("1 is 2 late", x.told(1, 5), 2);
    }

    private static void aDayWithoutAnybody() {
        AlarmsOfFondness x = new AlarmsOfFondness();
        due("nobody was late", x.day(), 0);
        due("DAY", x.count(2), 1);
    }

    /** What 1 tells of 2 must not mind that 0's clock has been told of before. */
    private static void toldAhead() {
        AlarmsOfFondness x = ruledBy("sets tired + missed; tires 9; grows 0;");
        x.person(0, 0, 0);
        x.person(0, 0, 0);
        due("both wake at 0", x.day(), 0);
        due("both wake at 9", x.day(), 3);
        due("1 was set by how tired 0 was ahead", x.told(1, 5), 9);
        AlarmsOfFondness y = ruledBy("sets 12 * missed; tires 0; grows 0;");
        y.person(0, 0, 0);
        y.person(0, 0, 0);
        y.set(6, 10, 0);
        due("1 wakes by 0's clock while 0 misses it", y.day(), 0);
        due("0's missing tells nothing of 1's clock", y.day(), 0);
        due("0 missed it twice", y.told(0, 4), 2);
    }

    private static void bounds() {
        AlarmsOfFondness x = ruledBy("sets 23; tires 60; grows 7;");
        x.person(0, 0, 0);
        x.person(0, 0, 3);
        x.set(5, 0, 9990);
        x.day();
        x.day();
        due("TIRED 99 at most", x.told(0, 3), 99);
        due("FOND 9 at most", x.told(10, 6), 9);
        due("LATE 9999 at most", x.told(0, 5), 9999);
        due("LATE of the other one", x.told(1, 5), 40);
        AlarmsOfFondness y = ruledBy("sets 0; tires -60; grows -7;");
        y.person(0, 0, 0);
        y.person(0, 0, 3);
        y.set(3, 0, 50);
        y.day();
        due("TIRED 0 at least", y.told(0, 3), 0);
        due("FOND 0 at least", y.told(10, 6), 0);
        due("nobody sets a clock any more", y.count(1), 2);
    }

    private static void whoIsNotWoken() {
        AlarmsOfFondness x = new AlarmsOfFondness();
        x.person(0, 0, 0);
        x.set(3, 0, 15);
        x.set(4, 0, 98);
        due("day()", x.day(), 0);
        due("10 less tired", x.told(0, 3), 5);
        due("missed it once more", x.told(0, 4), 99);
        due("day()", x.day(), 0);
        due("0 at least", x.told(0, 3), 0);
        due("99 at most", x.told(0, 4), 99);
        due("not late", x.told(0, 5), 0);
    }

    /** Late on one day, not woken on the next: not late any more. */
    private static void whoIsNotWokenAnyMore() {
        AlarmsOfFondness x = ruledBy("sets 9; tires 0; grows -1;");
        x.person(0, 0, 3);
        x.person(0, 0, 4);
        due("both were late", x.day(), 3);
        due("neither is woken", x.day(), 0);
        due("late", x.told(0, 5), 6);
        due("run: nobody is late then", x.run(0, 1, 3), 0);
        due("missed", x.told(0, 4), 1);
    }

    /** A MOTHER grows fonder of who wasn't late; a CHILD grows 1 fonder even so. */
    private static void growingByLateness() {
        for (int duty = 5; duty < 12; duty++) {
            AlarmsOfFondness x = ruledBy("sets 7; tires 0; grows 3;");
            x.person(1, 0, 23);
            x.person(0, 0, duty);
            x.person(3, 0, 23);
            x.set(6, 1, 2);
            x.set(6, 20, 5);
            x.set(2, 0, duty);
            x.day();
            due("a MOTHER, duty " + duty, x.told(1, 6), duty < 9 ? 2 : 5);
            due("a CHILD, duty " + duty, x.told(20, 6), duty < 9 ? 6 : 9);
        }
    }

    private static void lastDay() {
        AlarmsOfFondness x = new AlarmsOfFondness();
        x.person(0, 0, 0);
        x.set(0, 0, 998);
        due("day 998", x.day(), 0);
        due("day 999", x.day(), STATE);
        due("DAY stays", x.told(0, 0), 999);
        due("missed once", x.told(0, 4), 1);
    }

    private static AlarmsOfFondness three() {
        AlarmsOfFondness x = ruledBy("sets 5 + day; tires 10; grows 0;");
        x.person(0, 0, 6);
        x.person(0, 0, 7);
        x.person(0, 0, 0);
        x.set(6, 2, 0);
        x.set(6, 12, 0);
        return x;
    }

    private static void run() {
        AlarmsOfFondness x = three();
        x.set(3, 2, 35);
        int[] sum0 = {0, 0, 0, 1, 3};
        int[] sum1 = {0, 0, 0, 0, 1};
        int[] manyLate = {0, 0, 1, 2, 2};
        for (int n = 0; n < sum0.length; n++) {
            due("0 wakes behind " + n, x.run(0, n, 0), 5 + n);
            due("2 wakes behind " + n, x.run(2, n, 0), NONE);
            due("0 tired behind " + n, x.run(0, n, 1), 10 * n);
            due("2 tired behind " + n, x.run(2, n, 1), Math.max(0, 35 - 10 * n));
            due("0 late behind " + n, x.run(0, n, 2), sum0[n]);
            due("1 late behind " + n, x.run(1, n, 2), sum1[n]);
            due("many late behind " + n, x.run(1, n, 3), manyLate[n]);
            due("missed behind " + n, x.run(1, n, 4), n);
        }
        due("run of 40", x.run(0, 40, 0), 23);
    }

    private static void runChangesNothing() {
        AlarmsOfFondness x = three();
        for (int what = 0; what < 5; what++) {
            x.run(0, 40, what);
        }
        due("DAY", x.told(0, 0), 0);
        for (int one = 0; one < 3; one++) {
            due("TIRED", x.told(one, 3), 0);
            due("MISSED", x.told(one, 4), 0);
            due("LATE", x.told(one, 5), 0);
        }
    }

    private static void runPastTheLastDay() {
        AlarmsOfFondness x = ruledBy("sets day - 995; tires 0; grows 0;");
        x.person(0, 0, 0);
        x.person(0, 0, 0);
        x.set(0, 0, 999);
        due("in thought DAY may pass 999", x.run(0, 3, 0), 7);
        due("DAY stays", x.told(0, 0), 999);
    }

    private static void runRefuses() {
        AlarmsOfFondness x = three();
        int[][] wrong = {{3, 0, 0}, {-1, 0, 0}, {0, 41, 0}, {0, -1, 0}, {0, 0, 5}, {0, 0, -1}};
        for (int[] w : wrong) {
            due("run(" + w[0] + ", " + w[1] + ", " + w[2] + ")", x.run(w[0], w[1], w[2]), BAD);
        }
    }

    private static void round() {
        AlarmsOfFondness x = new AlarmsOfFondness();
        for (int i = 0; i < 5; i++) {
            x.person(0, 0, 0);
        }
        due("0 by 1, 1 by 0", x.round(0), 2);
        due("4 by 0, 0 by 1, 1 by 0", x.round(4), 3);
        for (int i = 0; i < 5; i++) {
            x.set(6, 10 * ((i + 1) % 5) + i, 5);
        }
        due("all five", x.round(3), 5);
        for (int i = 0; i < 4; i++) {
            x.set(6, 40 + i, 0);
            x.set(6, 10 * i + 4, 0);
        }
        due("4 has nobody", x.round(4), NONE);
        due("3 is set by 0 then, 0 by 1, .., 2 by 3", x.round(3), 4);
        x.set(6, 43, 9);
        due("3 by 4, who has nobody", x.round(3), NONE);
        due("0 by 1 by 2 by 3 by 4", x.round(0), NONE);
        due("round(5)", x.round(5), BAD);
        due("round(-1)", x.round(-1), BAD);
    }
}
