/** Promises 1 to 6: a new object, set, person, told, asks, woken. */
public final class PeopleTest {
    private static final int NO_SUCH = -1000, BAD = -2, FULL = -4;
    private static final int PERSON = 0, MOTHER = 1, HUSBAND = 2, CHILD = 3, DOCTOR = 4, QUEEN = 5;
    private static final Checks CHECKS = new Checks("PeopleTest");

    public static void main(String[] args) {
        newObject();
        set();
        setRefuses();
        person();
        told();
        toldRefuses();
        asksHours();
        asksBoundsOfHours();
        asksGrowing();
        asksRefuses();
        woken();
        wokenBounds();
        CHECKS.end();
    }

    private static void due(String what, long got, long want) {
        CHECKS.due(what, got, want);
    }

    /** Two of a kind's number and duty, the first being of that kind. */
    private static AlarmsOfFondness pair(int kind, int number, int dutyOfOther, String text) {
        AlarmsOfFondness x = new AlarmsOfFondness();
        x.person(kind, number, 0);
        x.person(PERSON, 0, dutyOfOther);
        if (!text.isEmpty()) {
            due(text, Checks.textOf(x, text), 1);
            due("force(1)", x.force(1), 0);
        }
        return x;
    }

    private static void newObject() {
        AlarmsOfFondness x = new AlarmsOfFondness();
        int[] counts = {0, 0, 0, 1, 0, 0};
        for (int i = 0; i < counts.length; i++) {
            due("new: count(" + i + ")", x.count(i), counts[i]);
        }
        due("new: told(0, 0)", x.told(0, 0), 0);
        due("new: told(0, 1)", x.told(0, 1), NO_SUCH);
        due("new: back()", x.back(), -3);
        for (int i = 0; i < 4; i++) {
            due("new: sheet " + i + " is missing", x.cell(i, 0, 0), -11);
        }
        due("new: mean", x.mean(0), AlarmsOfFondness.NO);
    }

    private static void set() {
        AlarmsOfFondness x = new AlarmsOfFondness();
        x.person(PERSON, 3, 8);
        x.person(MOTHER, 4, 9);
        int[] was = {0, 4, 9, 0, 0, 0};
        int[] most = {999, 9, 23, 99, 99, 9999};
        for (int what = 0; what < 6; what++) {
            due("set(" + what + ", 1, 1)", x.set(what, 1, 1), was[what]);
            due("set most of " + what, x.set(what, 1, most[what]), 1);
            due("set 0 of " + what, x.set(what, 1, 0), most[what]);
            due("told what was set of " + what, x.told(1, what), 0);
        }
        due("the other one has its number", x.told(0, 1), 3);
        due("the other one has its duty", x.told(0, 2), 8);
        due("DAY: of does not matter", x.set(0, -77, 5), 0);
        due("set(6, 10, 9)", x.set(6, 10, 9), 1);
        due("set(6, 10, 0)", x.set(6, 10, 0), 9);
        due("told(10, 6)", x.told(10, 6), 0);
        due("told(1, 6) is another fondness", x.told(1, 6), 1);
    }

    private static void setRefuses() {
        AlarmsOfFondness x = new AlarmsOfFondness();
        x.person(PERSON, 3, 8);
        x.person(MOTHER, 4, 9);
        int[] most = {999, 9, 23, 99, 99, 9999, 9};
        for (int what = 0; what < 7; what++) {
            int of = 1;
            int before = x.told(of, what);
            due("above the most of " + what, x.set(what, of, most[what] + 1), BAD);
            due("below 0 of " + what, x.set(what, of, -1), BAD);
            due("unchanged " + what, x.told(of, what), before);
        }
        int[] nobody = {-1, 2, 5, Integer.MAX_VALUE, Integer.MIN_VALUE};
        for (int of : nobody) {
            for (int what = 1; what < 6; what++) {
                due("set(" + what + ", " + of + ", 0)", x.set(what, of, 0), BAD);
            }
        }
        int[] noTwo = {0, 11, 2, 20, 12, 21, -1, -10, 100, 101, Integer.MAX_VALUE, Integer.MIN_VALUE};
        for (int of : noTwo) {
            due("set(6, " + of + ", 0)", x.set(6, of, 0), BAD);
        }
        due("set(7, 0, 0)", x.set(7, 0, 0), BAD);
        due("set(-1, 0, 0)", x.set(-1, 0, 0), BAD);
    }

    private static void person() {
        AlarmsOfFondness x = new AlarmsOfFondness();
        for (int i = 0; i < 5; i++) {
            due("person " + i, x.person(i, i, 20 + i > 23 ? 23 : 20 + i), i);
            for (int what = 3; what < 6; what++) {
                due("comes with 0 of " + what, x.told(i, what), 0);
            }
            due("kind", x.told(i, 7), i);
            due("number", x.told(i, 1), i);
            for (int j = 0; j < i; j++) {
                due("fond of all", x.told(10 * i + j, 6), 1);
                due("and by all", x.told(10 * j + i, 6), 1);
            }
        }
        due("FULL", x.person(0, 0, 0), FULL);
        due("BAD ahead of FULL", x.person(6, 0, 0), BAD);
        AlarmsOfFondness y = new AlarmsOfFondness();
        int[][] wrong = {{-1, 0, 0}, {6, 0, 0}, {0, -1, 0}, {0, 10, 0}, {0, 0, -1}, {0, 0, 24}};
        for (int[] w : wrong) {
            due("person BAD", y.person(w[0], w[1], w[2]), BAD);
        }
        due("nobody came", y.count(0), 0);
        due("the highest of all", y.person(5, 9, 23), 0);
    }

    private static void told() {
        AlarmsOfFondness x = new AlarmsOfFondness();
        x.person(PERSON, 0, 7);
        x.person(MOTHER, 0, 6);
        x.person(PERSON, 0, 23);
        due("of like ones the first", x.told(2, 8), 0);
        due("never oneself", x.told(0, 8), 1);
        due("a MOTHER sets 0's clock to 9", x.told(0, 9), 9);
        due("which is 2 late", x.told(0, 10), 2);
        due("in time is late by 0", x.told(2, 10), 0);
        due("0 sets 1's and 2's", x.told(0, 11), 6);
        due("1 sets 0's", x.told(1, 11), 1);
        due("2 sets nobody's", x.told(2, 11), 0);
        x.set(6, 20, 2);
        due("the fondest sets", x.told(0, 8), 2);
        x.set(6, 20, 0);
        x.set(6, 10, 0);
        due("who has nobody has no SETTER", x.told(0, 8), -1);
        due("and isn't woken", x.told(0, 9), -1);
        due("nor late", x.told(0, 10), 0);
        due("DAY: of does not matter", x.told(-5, 0), 0);
    }

    private static void toldRefuses() {
        AlarmsOfFondness x = new AlarmsOfFondness();
        x.person(PERSON, 0, 7);
        for (int what = 1; what <= 11; what++) {
            due("told(1, " + what + ")", x.told(1, what), NO_SUCH);
            due("told(-1, " + what + ")", x.told(-1, what), NO_SUCH);
        }
        due("told(0, 12)", x.told(0, 12), NO_SUCH);
        due("told(0, -1)", x.told(0, -1), NO_SUCH);
        due("told(0, 6)", x.told(0, 6), NO_SUCH);
        due("told(1, 6)", x.told(1, 6), NO_SUCH);
    }

    private static void asksHours() {
        int[] hours = {7, 9, 3, 9, 21, 4};
        for (int kind = PERSON; kind <= QUEEN; kind++) {
            AlarmsOfFondness x = pair(kind, 4, 21, "");
            due("kind " + kind + " sets", x.asks(0, 1, 0), hours[kind]);
        }
        AlarmsOfFondness child = pair(CHILD, 0, 0, "");
        child.set(6, 1, 0);
        due("a CHILD sets to 9 at least", child.asks(0, 1, 0), 9);
        child.set(6, 1, 9);
        due("a CHILD sets as a MOTHER", child.asks(0, 1, 0), 17);
        AlarmsOfFondness doctor = pair(DOCTOR, 0, 21, "");
        for (int day = 0; day < 6; day++) {
            doctor.set(0, 0, day);
            due("a DOCTOR on day " + day, doctor.asks(0, 1, 0), day % 3 == 0 ? 21 : 3);
        }
    }

    private static void asksBoundsOfHours() {
        String much = "sets 1000; tires 0; grows 0;";
        int[] atMost = {23, 23, 23, 23, 23, 4};
        for (int kind = PERSON; kind <= QUEEN; kind++) {
            AlarmsOfFondness x = pair(kind, 4, 1, much);
            x.set(0, 0, 1);
            due("kind " + kind + " sets at most", x.asks(0, 1, 0), atMost[kind]);
        }
        String below = "sets 0-1000; tires 0; grows 0;";
        int[] atLeast = {0, 2, 0, 9, 0, 4};
        for (int kind = PERSON; kind <= QUEEN; kind++) {
            AlarmsOfFondness x = pair(kind, 4, 1, below);
            x.set(0, 0, 1);
            due("kind " + kind + " sets at least", x.asks(0, 1, 0), atLeast[kind]);
        }
        AlarmsOfFondness x = pair(HUSBAND, 0, 0, "sets 41; tires 0; grows 0;");
        due("the bound is laid once: half of 41", x.asks(0, 1, 0), 20);
    }

    private static void asksGrowing() {
        String text = "sets 0; tires 0; grows 5;";
        int[] late = {5, 0, -5, 1, 0, 0};
        int[] notLate = {5, 5, -5, 6, 0, 0};
        for (int kind = PERSON; kind <= QUEEN; kind++) {
            AlarmsOfFondness x = pair(kind, 4, 1, text);
            due("kind " + kind + " grows, late", x.asks(0, 1, 1), late[kind]);
            due("kind " + kind + " grows, not late", x.asks(0, 1, 2), notLate[kind]);
        }
        AlarmsOfFondness doctor = pair(DOCTOR, 0, 0, text);
        for (int day = 0; day < 7; day++) {
            doctor.set(0, 0, day);
            due("a DOCTOR on day " + day, doctor.asks(0, 1, 1), day % 2 == 1 ? -5 : 0);
            due("a DOCTOR on day " + day + ", not late", doctor.asks(0, 1, 2), day % 2 == 1 ? -5 : 0);
        }
        int[] most = {99, 99, -99, 100, 0, 0};
        int[] least = {-99, -99, 99, -98, 0, 0};
        for (int kind = PERSON; kind <= QUEEN; kind++) {
            due("most", pair(kind, 4, 1, "sets 0; tires 0; grows 500;").asks(0, 1, 2), most[kind]);
            due("least", pair(kind, 4, 1, "sets 0; tires 0; grows -500;").asks(0, 1, 2), least[kind]);
        }
    }

    private static void asksRefuses() {
        AlarmsOfFondness x = pair(PERSON, 0, 0, "");
        int[][] wrong = {{0, 0, 0}, {1, 1, 1}, {0, 2, 0}, {2, 0, 0}, {-1, 0, 0}, {0, -1, 0}, {0, 1, 3}, {0, 1, -1}};
        for (int[] w : wrong) {
            due("asks(" + w[0] + ", " + w[1] + ", " + w[2] + ")", x.asks(w[0], w[1], w[2]), NO_SUCH);
        }
    }

    private static void woken() {
        String text = "sets 0; tires 7; grows 0;";
        int[] early = {7, 3, 11, 0, 22, 7};
        int[] later = {7, 3, 7, 0, 14, 7};
        for (int kind = PERSON; kind <= QUEEN; kind++) {
            AlarmsOfFondness x = pair(kind, 4, 1, text);
            due("kind " + kind + " at 5", x.woken(0, 5), early[kind]);
            due("kind " + kind + " at 6", x.woken(0, 6), later[kind]);
            due("kind " + kind + " at 0", x.woken(0, 0), early[kind]);
            due("kind " + kind + " at 23", x.woken(0, 23), later[kind]);
        }
        AlarmsOfFondness queen = pair(QUEEN, 0, 0, text);
        queen.set(3, 0, 49);
        due("a QUEEN at 49", queen.woken(0, 5), 7);
        queen.set(3, 0, 50);
        due("a QUEEN at 50", queen.woken(0, 5), 0);
        due("half is cut toward 0", pair(MOTHER, 0, 0, "sets 0; tires -7; grows 0;").woken(0, 5), -3);
    }

    private static void wokenBounds() {
        due("a text tells 99 at most", pair(PERSON, 0, 0, "sets 0; tires 500; grows 0;").woken(0, 5), 99);
        due("a MOTHER: half of 99", pair(MOTHER, 0, 0, "sets 0; tires 500; grows 0;").woken(0, 5), 49);
        due("a HUSBAND: 99 at most", pair(HUSBAND, 9, 0, "sets 0; tires 95; grows 0;").woken(0, 5), 99);
        due("a DOCTOR: 99 at most", pair(DOCTOR, 9, 0, "sets 0; tires 50; grows 0;").woken(0, 6), 99);
        due("a DOCTOR: -99 at least", pair(DOCTOR, 9, 0, "sets 0; tires -500; grows 0;").woken(0, 5), -99);
        AlarmsOfFondness x = pair(PERSON, 0, 0, "");
        int[][] wrong = {{2, 0}, {-1, 0}, {0, 24}, {0, -1}};
        for (int[] w : wrong) {
            due("woken(" + w[0] + ", " + w[1] + ")", x.woken(w[0], w[1]), NO_SUCH);
        }
    }
}
