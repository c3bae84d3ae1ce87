/** Promises 13 to 16: others, duty, fonder, mean. */
public final class BestTest {
    private static final int NONE = -1, BAD = -2;
    private static final Checks CHECKS = new Checks("BestTest");

    public static void main(String[] args) {
        othersOfFew();
        othersOfLikeOnes();
        othersByFondness();
        othersOfFive();
        duty();
        dutyOfLikeOnes();
        fonder();
        fonderRefuses();
        mean();
        CHECKS.end();
    }

    private static void due(String what, long got, long want) {
        CHECKS.due(what, got, want);
    }

    private static void othersOfFew() {
        AlarmsOfFondness x = new AlarmsOfFondness();
        for (int i = 0; i < 2; i++) {
            due("others(0) of " + i, x.others(0), NONE);
            due("others(1) of " + i, x.others(1), NONE);
            due("others(2)", x.others(2), BAD);
            due("others(-1)", x.others(-1), BAD);
            x.person(0, 0, 3 * i);
        }
        due("two have one way", x.others(0), 21);
        due("7 and 4 late", x.others(1), 11);
    }

    private static void othersOfLikeOnes() {
        AlarmsOfFondness x = new AlarmsOfFondness();
        int[] first = {0, 0, 21, 231, 2143, 21453};
        x.person(0, 0, 23);
        for (int n = 2; n <= 5; n++) {
            x.person(0, 0, 23);
            due("the first way of " + n, x.others(0), first[n]);
            due("none is late", x.others(1), 0);
        }
    }

    /** Hours are 6 and how fond: 0 had best set 2's, 1 0's, 2 1's. */
    private static void othersByFondness() {
        AlarmsOfFondness x = new AlarmsOfFondness();
        for (int i = 0; i < 3; i++) {
            x.person(0, 0, 6);
        }
        x.set(6, 1, 5);
        x.set(6, 12, 5);
        x.set(6, 20, 5);
        x.set(6, 21, 0);
        due("312", x.others(0), 312);
        due("1 and 1 and 0 late", x.others(1), 2);
        x.set(6, 2, 9);
        x.set(6, 10, 9);
        due("231", x.others(0), 231);
        due("5 and 5 and 5", x.others(1), 15);
    }

    /** A HUSBAND sets to 3, a MOTHER to 9: so he sets the clock of who must rise early. */
    private static void othersOfFive() {
        AlarmsOfFondness x = new AlarmsOfFondness();
        x.person(2, 0, 23);
        x.person(1, 0, 23);
        x.person(0, 0, 7);
        x.person(0, 0, 3);
        x.person(0, 0, 23);
        due("0 sets 3's, 1 0's, 2 1's, 3 2's, 4 ..", x.others(0), 41253);
        due("none is late", x.others(1), 0);
    }

    private static void duty() {
        AlarmsOfFondness x = new AlarmsOfFondness();
        x.person(0, 0, 3);
        x.person(0, 0, 5);
        due("the first duty by which 0 isn't late", x.duty(0, 4, 0), 7);
        due("1 is 2 late on 4 days", x.duty(0, 4, 1), 8);
        due("1's", x.duty(1, 4, 0), 7);
        due("0 is 4 late on 4 days", x.duty(1, 4, 1), 16);
        due("20 days", x.duty(1, 20, 1), 80);
        due("0 days: the first", x.duty(1, 0, 0), 0);
        due("0 days", x.duty(1, 0, 1), 0);
        x.set(5, 0, 100);
        due("what was late stays", x.duty(1, 4, 1), 116);
        due("nothing is changed", x.told(1, 2), 5);
        int[][] wrong = {{2, 0, 0}, {-1, 0, 0}, {0, 21, 0}, {0, -1, 0}, {0, 0, 2}, {0, 0, -1}};
        for (int[] w : wrong) {
            due("duty BAD", x.duty(w[0], w[1], w[2]), BAD);
        }
    }

    /** A clock that is set to 30 less the duty: 15 is the first duty in time. */
    private static void dutyOfLikeOnes() {
        AlarmsOfFondness x = new AlarmsOfFondness();
        x.person(0, 0, 3);
        x.person(0, 0, 23);
        Checks.textOf(x, "sets 30 - duty; tires 0; grows 0;");
        x.force(1);
        due("duty", x.duty(0, 7, 0), 15);
        due("how much", x.duty(0, 7, 1), 0);
    }

    /** A QUEEN would wake others at 5, where a PERSON wakes them at 7. */
    private static void fonder() {
        AlarmsOfFondness x = new AlarmsOfFondness();
        x.person(0, 0, 5);
        x.person(0, 0, 23);
        x.person(5, 5, 6);
        x.person(0, 0, 23);
        due("2 should be fonder of 0", x.fonder(2, 3, 0), 0);
        due("then just 2 is late", x.fonder(2, 3, 1), 3);
        due("1 can't better it", x.fonder(1, 3, 0), NONE);
        due("as so: 2 hours of 0, 1 of 2", x.fonder(1, 3, 1), 9);
        due("0 days", x.fonder(2, 0, 0), NONE);
        due("nothing is changed", x.told(20, 6), 1);
        x.set(2, 3, 5);
        due("0 and 3 are alike: the first", x.fonder(2, 3, 0), 0);
        due("3's hours stay", x.fonder(2, 3, 1), 9);
        x.set(2, 0, 6);
        due("the best, not the first", x.fonder(2, 3, 0), 3);
        due("0's hours stay", x.fonder(2, 3, 1), 6);
        x.set(2, 0, 5);
        x.set(2, 3, 23);
        x.set(6, 20, 9);
        due("who is 9 fond can't be fonder", x.fonder(2, 3, 0), NONE);
        due("as so", x.fonder(2, 3, 1), 3);
        due("20 days", x.fonder(2, 20, 1), 20);
    }

    private static void fonderRefuses() {
        AlarmsOfFondness x = new AlarmsOfFondness();
        x.person(0, 0, 5);
        due("alone", x.fonder(0, 20, 0), NONE);
        due("alone, how much", x.fonder(0, 20, 1), 0);
        int[][] wrong = {{1, 0, 0}, {-1, 0, 0}, {0, 21, 0}, {0, -1, 0}, {0, 0, 2}, {0, 0, -1}};
        for (int[] w : wrong) {
            due("fonder BAD", x.fonder(w[0], w[1], w[2]), BAD);
        }
    }

    private static void mean() {
        AlarmsOfFondness x = new AlarmsOfFondness();
        due("nobody", x.mean(0), AlarmsOfFondness.NO);
        due("nobody", x.mean(1), AlarmsOfFondness.NO);
        x.person(0, 0, 0);
        due("0", x.mean(0), 0);
        due("of 1", x.mean(1), 1);
        for (int i = 0; i < 3; i++) {
            x.person(0, 0, 0);
        }
        due("0 in lowest terms", x.mean(1), 1);
        x.set(5, 0, 7);
        x.set(5, 3, 3);
        due("10 by 4", x.mean(0), 5);
        due("10 by 4", x.mean(1), 2);
        x.set(5, 3, 4);
        due("11 by 4", x.mean(0), 11);
        due("11 by 4", x.mean(1), 4);
        x.set(5, 3, 5);
        due("12 by 4", x.mean(0), 3);
        due("12 by 4", x.mean(1), 1);
        due("mean(2)", x.mean(2), AlarmsOfFondness.NO);
        due("mean(-1)", x.mean(-1), AlarmsOfFondness.NO);
    }
}
