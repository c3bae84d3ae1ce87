/** The bounds of 'Terms', ==== 1: what PEOPLE have, and what each KIND makes of what a TEXT tells. */
public final class EdgesOfKindsTest {
    private static final int BAD = -2, FULL = -4, OTHER = -13;
    private static final int PERSON = 0, MOTHER = 1, HUSBAND = 2, CHILD = 3, DOCTOR = 4, QUEEN = 5;
    private static final Edges EDGES = new Edges("EdgesOfKindsTest");

    public static void main(String[] args) {
        constants();
        dayAndPeople();
        kinds();
        numbersAndDuties();
        asOneComes();
        fond();
        hoursOfAllKinds();
        hoursBySentence();
        tiringOfAllKinds();
        tiringBySentence();
        growingOfAllKinds();
        growingBySentence();
        quotients();
        EDGES.end();
    }

    private static void says(String words) {
        EDGES.says(words);
    }

    private static void due(String call, long got, long want) {
        EDGES.due(call, got, want);
    }

    /** One of a KIND, with a PERSON behind, by a TEXT. */
    private static AlarmsOfFondness ofKind(int kind, String text) {
        AlarmsOfFondness x = new AlarmsOfFondness();
        x.person(kind, 4, 0);
        x.person(PERSON, 0, 17);
        if (Checks.textOf(x, text) != 1) {
            due("no text: " + text, 0, 1);
        }
        x.force(1);
        return x;
    }

    private static void constants() {
        says("NONE is -1");
        due("NONE", AlarmsOfFondness.NONE, -1);
        says("NO, where a long is answered, -4611686018427387904");
        due("NO", AlarmsOfFondness.NO, -(1L << 62));
        says("BAD (-2: a number is none such or not as told), STATE (-3), FULL (-4)");
        due("BAD", AlarmsOfFondness.BAD, BAD);
        due("STATE", AlarmsOfFondness.STATE, -3);
        due("FULL", AlarmsOfFondness.FULL, FULL);
    }

    private static void dayAndPeople() {
        says("DAY (0 .. 999; 0 at first)");
        AlarmsOfFondness x = new AlarmsOfFondness();
        due("at first", x.count(2), 0);
        due("above", x.set(0, 0, 1000), BAD);
        due("below", x.set(0, 0, -1), BAD);
        due("the last", x.set(0, 0, 999), 0);
        due("above, being the last", x.set(0, 0, 1000), BAD);
        due("the first", x.set(0, 0, 0), 999);
        due("it is", x.count(2), 0);
        says("PEOPLE (5 at most, numbered from 0)");
        for (int i = 0; i < 5; i++) {
            due("number", x.person(0, 0, 0), i);
        }
        due("a sixth", x.person(0, 0, 0), FULL);
        due("five", x.count(0), 5);
        due("the fifth is there", x.told(4, 7), 0);
        due("the sixth isn't", x.told(5, 7), -1000);
    }

    private static void kinds() {
        says("0 PERSON, 1 MOTHER under PERSON, 2 HUSBAND under PERSON, 3 CHILD under MOTHER, "
                + "4 DOCTOR under HUSBAND, 5 QUEEN under PERSON");
        String[] takenFor = {"0", "01", "02", "013", "024", "05"};
        for (int kind = 0; kind < 6; kind++) {
            AlarmsOfFondness x = new AlarmsOfFondness();
            due("one comes", x.person(kind, 7, 0), 0);
            due("kind", x.told(0, 7), kind);
            for (int k = 0; k < 6; k++) {
                due(kind + " taken for " + k, x.taken(0, k), takenFor[kind].indexOf('0' + k) >= 0 ? 7 : OTHER);
            }
        }
        AlarmsOfFondness x = new AlarmsOfFondness();
        due("a kind below", x.person(-1, 0, 0), BAD);
        due("a kind above", x.person(6, 0, 0), BAD);
        due("nobody came", x.count(0), 0);
    }

    private static void numbersAndDuties() {
        says("a NUMBER (0 .. 9), a DUTY (0 .. 23)");
        AlarmsOfFondness x = new AlarmsOfFondness();
        due("number above", x.person(0, 10, 0), BAD);
        due("number below", x.person(0, -1, 0), BAD);
        due("duty above", x.person(0, 0, 24), BAD);
        due("duty below", x.person(0, 0, -1), BAD);
        due("both at their highest", x.person(0, 9, 23), 0);
        due("both at their lowest", x.person(0, 0, 0), 1);
        due("number", x.told(0, 1), 9);
        due("duty", x.told(0, 2), 23);
        due("number", x.told(1, 1), 0);
        due("duty", x.told(1, 2), 0);
        due("number set above", x.set(1, 0, 10), BAD);
        due("number set below", x.set(1, 0, -1), BAD);
        due("duty set above", x.set(2, 0, 24), BAD);
        due("duty set below", x.set(2, 0, -1), BAD);
        due("number set lowest", x.set(1, 0, 0), 9);
        due("number set highest", x.set(1, 0, 9), 0);
        due("duty set lowest", x.set(2, 0, 0), 23);
        due("duty set highest", x.set(2, 0, 23), 0);
    }

    private static void asOneComes() {
        String[] words = {"are TIRED (0 .. 99; 0 as one comes)", "have MISSED it so often (0 .. 99; 0)",
            "are LATE, together, so many hours (0 .. 9999; 0)"};
        int[] most = {99, 99, 9999};
        for (int i = 0; i < 3; i++) {
            says(words[i]);
            AlarmsOfFondness x = new AlarmsOfFondness();
            x.person(0, 9, 23);
            due("as one comes", x.told(0, 3 + i), 0);
            due("above", x.set(3 + i, 0, most[i] + 1), BAD);
            due("below", x.set(3 + i, 0, -1), BAD);
            due("the most", x.set(3 + i, 0, most[i]), 0);
            x.person(0, 9, 23);
            due("as another one comes", x.told(1, 3 + i), 0);
            due("the least", x.set(3 + i, 0, 0), most[i]);
            due("it is", x.told(0, 3 + i), 0);
        }
    }

    private static void fond() {
        says("how fond each is of each other one (0 .. 9; 1 as one comes, of all and by all)");
        AlarmsOfFondness x = new AlarmsOfFondness();
        x.person(0, 0, 0);
        due("of oneself none", x.told(0, 6), -1000);
        for (int came = 1; came < 5; came++) {
            x.person(0, 0, 0);
            for (int other = 0; other < came; other++) {
                due("of " + other, x.told(10 * came + other, 6), 1);
                due("by " + other, x.told(10 * other + came, 6), 1);
                due("above", x.set(6, 10 * came + other, 10), BAD);
                due("below", x.set(6, 10 * came + other, -1), BAD);
                due("the most", x.set(6, 10 * came + other, 9), 1);
                due("the least", x.set(6, 10 * other + came, 0), 1);
            }
            due("of oneself none", x.told(11 * came, 6), -1000);
        }
        for (int one = 1; one < 5; one++) {
            for (int other = 0; other < one; other++) {
                due("it stays as others come", x.told(10 * one + other, 6), 9);
                due("this, too", x.told(10 * other + one, 6), 0);
            }
        }
    }

    private static int hourDue(int kind, int v, int day) {
        int[] all = {v, v + 2, v / 2, Math.max(9, v + 2), day % 3 == 0 ? 17 : v / 2, 4};
        return Math.max(0, Math.min(23, all[kind]));
    }

    private static void hoursOfAllKinds() {
        says("(0 .. 23, else the bound: laid once, on what comes out.) TIRES");
        for (int kind = PERSON; kind <= QUEEN; kind++) {
            AlarmsOfFondness x = ofKind(kind, "sets tired; tires 0; grows 0;");
            for (int v = 0; v <= 99; v++) {
                x.set(3, 0, v);
                x.set(0, 0, v % 5);
                due("kind " + kind + " by " + v, x.asks(0, 1, 0), hourDue(kind, v, v % 5));
            }
        }
        due("what a text tells is no hour yet: half of 45", hours(HUSBAND, "45"), 22);
        due("half of 46", hours(HUSBAND, "46"), 23);
        due("half of 48, bound", hours(HUSBAND, "48"), 23);
        due("23", hours(PERSON, "23"), 23);
        due("24", hours(PERSON, "24"), 23);
    }

    /** On DAY 1. */
    private static int hours(int kind, String e) {
        AlarmsOfFondness x = ofKind(kind, "sets " + e + "; tires 0; grows 0;");
        x.set(0, 0, 1);
        return x.asks(0, 1, 0);
    }

    private static void hoursBySentence() {
        says("SETS (another one's clock, to an hour, sets telling v): PERSON: v;");
        due("0", hours(PERSON, "0"), 0);
        due("23", hours(PERSON, "23"), 23);
        due("24", hours(PERSON, "24"), 23);
        due("-1", hours(PERSON, "-1"), 0);
        says("MOTHER: 2 more than a PERSON; HUSBAND: half (cut) of a PERSON's");
        due("2 more than 0", hours(MOTHER, "0"), 2);
        due("2 more than 21", hours(MOTHER, "21"), 23);
        due("2 more than 22", hours(MOTHER, "22"), 23);
        due("half of 0", hours(HUSBAND, "0"), 0);
        due("half of 1", hours(HUSBAND, "1"), 0);
        due("half of 23", hours(HUSBAND, "23"), 11);
        says("CHILD: as a MOTHER, but 9 at least");
        due("0", hours(CHILD, "0"), 9);
        due("6", hours(CHILD, "6"), 9);
        due("7", hours(CHILD, "7"), 9);
        due("8", hours(CHILD, "8"), 10);
        due("21", hours(CHILD, "21"), 23);
        due("22", hours(CHILD, "22"), 23);
        says("DOCTOR: that one's DUTY, if DAY modulo 3 is 0, else as a HUSBAND");
        AlarmsOfFondness doctor = ofKind(DOCTOR, "sets 45; tires 0; grows 0;");
        int[] days = {0, 1, 2, 3, 4, 5, 996, 997, 998, 999};
        for (int day : days) {
            doctor.set(0, 0, day);
            due("DAY " + day, doctor.asks(0, 1, 0), day % 3 == 0 ? 17 : 22);
        }
        due("in thought, DAY 1002", doctor.run(1, 3, 0), 17);
        due("in thought, DAY 1000", doctor.run(1, 1, 0), 22);
        says("QUEEN: NUMBER. (0 .. 23");
        AlarmsOfFondness queen = ofKind(QUEEN, "sets 99; tires 0; grows 0;");
        for (int number = 0; number <= 9; number++) {
            queen.set(1, 0, number);
            due("number " + number, queen.asks(0, 1, 0), number);
        }
    }

    private static int tiredDue(int kind, int v, int hour, int tired) {
        int husbands = hour < 6 ? v + 4 : v;
        int[] all = {v, v / 2, husbands, 0, 2 * husbands, tired < 50 ? v : 0};
        return Math.max(-99, Math.min(99, all[kind]));
    }

    private static void tiringOfAllKinds() {
        says("(TIRES -99 .. 99, else the bound: laid once, on what comes out.)");
        String[] texts = {"sets 0; tires missed; grows 0;", "sets 0; tires -missed; grows 0;"};
        for (int kind = PERSON; kind <= QUEEN; kind++) {
            for (int below = 0; below < 2; below++) {
                AlarmsOfFondness x = ofKind(kind, texts[below]);
                for (int missed = 0; missed <= 99; missed++) {
                    int hour = missed % 24;
                    int tired = missed % 2 == 0 ? 49 : 50;
                    x.set(4, 0, missed);
                    x.set(3, 0, tired);
                    int v = below == 0 ? missed : -missed;
                    due("kind " + kind + " by " + v + " at " + hour, x.woken(0, hour), tiredDue(kind, v, hour, tired));
                }
            }
        }
    }

    private static int tiring(int kind, String e, int hour) {
        return ofKind(kind, "sets 0; tires " + e + "; grows 0;").woken(0, hour);
    }

    private static void tiringBySentence() {
        says("TIRES (so much more TIRED, woken at an hour, tires telling v): PERSON: v; "
                + "MOTHER: half (cut) of a PERSON's;");
        due("99", tiring(PERSON, "99", 0), 99);
        due("-99", tiring(PERSON, "-99", 23), -99);
        due("half of 99", tiring(MOTHER, "99", 0), 49);
        due("half of -99", tiring(MOTHER, "-99", 23), -49);
        due("half of 1", tiring(MOTHER, "1", 5), 0);
        says("HUSBAND: NUMBER more than a PERSON, if that hour is below 6, else as a PERSON");
        due("at 0", tiring(HUSBAND, "10", 0), 14);
        due("at 5", tiring(HUSBAND, "10", 5), 14);
        due("at 6", tiring(HUSBAND, "10", 6), 10);
        due("at 23", tiring(HUSBAND, "10", 23), 10);
        due("95 and 4", tiring(HUSBAND, "95", 5), 99);
        due("96 and 4", tiring(HUSBAND, "96", 5), 99);
        due("-99 and 4", tiring(HUSBAND, "-99", 5), -95);
        says("CHILD: 0; DOCTOR: twice a HUSBAND's");
        due("a CHILD by 99", tiring(CHILD, "99", 0), 0);
        due("a CHILD by -99", tiring(CHILD, "-99", 0), 0);
        due("twice 49", tiring(DOCTOR, "49", 6), 98);
        due("twice 50", tiring(DOCTOR, "50", 6), 99);
        due("twice 45 and 4", tiring(DOCTOR, "45", 5), 98);
        due("twice 46 and 4", tiring(DOCTOR, "46", 5), 99);
        due("twice -49", tiring(DOCTOR, "-49", 6), -98);
        due("twice -50", tiring(DOCTOR, "-50", 6), -99);
        says("QUEEN: as a PERSON, if it is TIRED below 50, else 0");
        AlarmsOfFondness queen = ofKind(QUEEN, "sets 0; tires 7; grows 0;");
        int[] tired = {0, 49, 50, 99};
        int[] want = {7, 7, 0, 0};
        for (int i = 0; i < 4; i++) {
            queen.set(3, 0, tired[i]);
            due("TIRED " + tired[i], queen.woken(0, 5), want[i]);
        }
    }

    private static int grownDue(int kind, int v, boolean late, int day) {
        int[] all = {v, late ? 0 : v, -v, late ? 1 : v + 1, day % 2 == 1 ? -v : 0, 0};
        return all[kind];
    }

    private static void growingOfAllKinds() {
        says("GROWS (so much fonder of whose clock one set, grows telling v): PERSON: v");
        String[] texts = {"sets 0; tires 0; grows missed;", "sets 0; tires 0; grows -missed;"};
        for (int kind = PERSON; kind <= QUEEN; kind++) {
            for (int below = 0; below < 2; below++) {
                AlarmsOfFondness x = ofKind(kind, texts[below]);
                for (int missed = 0; missed <= 99; missed++) {
                    int day = missed % 3;
                    x.set(4, 1, missed);
                    x.set(0, 0, day);
                    int v = below == 0 ? missed : -missed;
                    due("kind " + kind + " by " + v + ", late", x.asks(0, 1, 1), grownDue(kind, v, true, day));
                    due("kind " + kind + " by " + v + ", in time", x.asks(0, 1, 2), grownDue(kind, v, false, day));
                }
            }
        }
    }

    private static int grows(int kind, String e, int what, int day) {
        AlarmsOfFondness x = ofKind(kind, "sets 0; tires 0; grows " + e + ";");
        x.set(0, 0, day);
        return x.asks(0, 1, what);
    }

    private static void growingBySentence() {
        says("MOTHER: as a PERSON, if that one wasn't late, else 0; HUSBAND: 0 less a PERSON's");
        due("late", grows(MOTHER, "9", 1, 0), 0);
        due("in time", grows(MOTHER, "9", 2, 0), 9);
        due("late, below 0", grows(MOTHER, "-9", 1, 0), 0);
        due("less 99", grows(HUSBAND, "99", 1, 0), -99);
        due("less -99", grows(HUSBAND, "-99", 2, 0), 99);
        says("CHILD: 1 more than a MOTHER; DOCTOR: as a HUSBAND, in odd DAYS, else 0; QUEEN: 0.");
        due("late", grows(CHILD, "9", 1, 0), 1);
        due("in time", grows(CHILD, "9", 2, 0), 10);
        due("no bound is told of GROWS", grows(CHILD, "99", 2, 0), 100);
        due("least", grows(CHILD, "-99", 2, 0), -98);
        for (int day = 996; day <= 999; day++) {
            due("DAY " + day, grows(DOCTOR, "9", 1, day), day % 2 == 1 ? -9 : 0);
            due("DAY " + day, grows(DOCTOR, "-9", 2, day), day % 2 == 1 ? 9 : 0);
        }
        due("a QUEEN", grows(QUEEN, "99", 1, 1), 0);
        due("a QUEEN", grows(QUEEN, "-99", 2, 1), 0);
    }

    private static void quotients() {
        says("Quotients are cut toward 0.");
        due("half of -1", tiring(MOTHER, "-1", 0), 0);
        due("half of -7", tiring(MOTHER, "-7", 0), -3);
        due("half of -99", tiring(MOTHER, "-99", 0), -49);
        due("half of 1", tiring(MOTHER, "1", 0), 0);
        due("half of 99", tiring(MOTHER, "99", 0), 49);
        due("an hour: half of 9", hours(HUSBAND, "9"), 4);
    }
}
