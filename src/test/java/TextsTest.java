/** Promises 7 to 9: feed, text, force; how a TEXT is read, where its FAULT is, what it tells. */
public final class TextsTest {
    private static final int BAD = -2, FULL = -4;
    private static final String REST = " tires 0; grows 0;";
    private static final Checks CHECKS = new Checks("TextsTest");

    public static void main(String[] args) {
        feed();
        texts();
        textIsFull();
        force();
        goodTexts();
        faults();
        depth();
        values();
        mostThatWait();
        wrapping();
        afterFaults();
        lastByte();
        names();
        missed();
        CHECKS.end();
    }

    private static void due(String what, long got, long want) {
        CHECKS.due(what, got, want);
    }

    private static void feed() {
        AlarmsOfFondness x = new AlarmsOfFondness();
        due("feed(-1)", x.feed(-1), BAD);
        due("feed(256)", x.feed(256), BAD);
        due("nothing was fed", x.count(4), 0);
        for (int i = 1; i <= 160; i++) {
            due("feed " + i, x.feed(i % 2 == 0 ? 255 : 0), i);
        }
        due("the 161st", x.feed(32), FULL);
        due("BAD ahead of FULL", x.feed(256), BAD);
        due("count(4)", x.count(4), 160);
        due("the first byte begins no token", x.text(), -100);
        due("the tape is empty then", x.count(4), 0);
    }

    private static void texts() {
        AlarmsOfFondness x = new AlarmsOfFondness();
        due("an empty tape ends too early", x.text(), -100);
        due("count(3)", x.count(3), 1);
        due("the first text", Checks.textOf(x, "sets 1; tires 2; grows 3;"), 1);
        due("the tape is empty", x.count(4), 0);
        due("count(3)", x.count(3), 2);
        due("the rule is as it was", x.count(5), 0);
        Checks.feedAll(x, "sets 1; tires 2; grows 3;");
        while (x.count(4) < 160) {
            x.feed(10);
        }
        due("160 bytes are a text", x.text(), 2);
    }

    private static void textIsFull() {
        AlarmsOfFondness x = new AlarmsOfFondness();
        for (int i = 1; i < 6; i++) {
            due("text " + i, Checks.textOf(x, "sets 1;" + REST), i);
        }
        Checks.feedAll(x, "oh");
        due("FULL ahead of a FAULT", x.text(), FULL);
        due("the tape stays", x.count(4), 2);
        due("count(3)", x.count(3), 6);
    }

    private static void force() {
        AlarmsOfFondness x = new AlarmsOfFondness();
        x.person(0, 0, 0);
        x.person(0, 0, 0);
        Checks.textOf(x, "sets 11; tires 22; grows 33;");
        due("told by TEXT 0", x.asks(0, 1, 0), 7);
        due("woken by TEXT 0", x.woken(0, 0), 3);
        due("grown by TEXT 0", x.asks(0, 1, 2), 0);
        due("force(2)", x.force(2), BAD);
        due("force(-1)", x.force(-1), BAD);
        due("the rule is as it was", x.count(5), 0);
        due("force(1)", x.force(1), 0);
        due("count(5)", x.count(5), 1);
        due("sets", x.asks(0, 1, 0), 11);
        due("tires", x.woken(0, 0), 22);
        due("grows", x.asks(0, 1, 2), 33);
        due("force(1) again", x.force(1), 1);
        due("force(0)", x.force(0), 1);
    }

    private static void good(String text) {
        due("[" + text + "]", Checks.textOf(new AlarmsOfFondness(), text), 1);
    }

    private static void goodTexts() {
        good("sets 6 + fond ; tires 3 ; grows 0 ;");
        good("sets6+fond;tires3;grows0;");
        good("\n sets(fond)\n;tires duty*number-day;grows tired<missed;\n");
        good("sets not 1 and not not 2 or 3;" + REST);
        good("sets - - 5 - -5;" + REST);
        good("sets 0000;" + REST);
        good("sets 9999;" + REST);
        good("sets 1<2 and 3=4;" + REST);
        good("sets not 1 < 2;" + REST);
        good("sets (1<2)<3;" + REST);
    }

    /** The FAULT is where the ^ stands, which is no part of the text. */
    private static void fault(String marked) {
        int place = marked.indexOf('^');
        String text = marked.substring(0, place) + marked.substring(place + 1);
        AlarmsOfFondness x = new AlarmsOfFondness();
        due("[" + marked + "]", Checks.textOf(x, text), -100 - place);
        due("the tape is empty by a FAULT, too", x.count(4), 0);
        due("no text came", x.count(3), 1);
    }

    private static void faults() {
        fault("^");
        fault("   ^");
        fault("^tires 1; sets 1; grows 1;");
        fault("sets^");
        fault("sets 1^");
        fault("sets 1;\n ^");
        fault("sets 1; ^grows 1;");
        fault("sets 1; tires 2; grows 3^");
        fault("sets 1; tires 2; grows 3; ^;");
        fault("sets 1; tires 2; grows 3; ^sets 1;");
        fault("sets ^;" + REST);
        fault("sets 1 ^2;" + REST);
        fault("sets 1^fond;" + REST);
        fault("sets ^10000;" + REST);
        fault("sets ^00001;" + REST);
        fault("sets ^x;" + REST);
        fault("sets ^fondduty;" + REST);
        fault("sets ^fon;" + REST);
        fault("sets ^fonds;" + REST);
        fault("sets ^notfond;" + REST);
        fault("sets ^numbers;" + REST);
        fault("sets ^bond;" + REST);
        fault("sets ^hired;" + REST);
        fault("sets ^hot 1;" + REST);
        fault("sets 1 ^ar 1;" + REST);
        fault("^jets 1;" + REST);
        fault("sets ^fondz;" + REST);
        fault("sets ^afond;" + REST);
        fault("sets ^z;" + REST);
        fault("sets fond^{;" + REST);
        fault("sets fond^`;" + REST);
        fault("sets 1^/;" + REST);
        fault("sets 1^:;" + REST);
        fault("sets ^sets;" + REST);
        fault("sets ^and 1;" + REST);
        fault("sets 1 or ^or 1;" + REST);
        fault("sets 1 + ^not 1;" + REST);
        fault("sets 1 < ^not 1;" + REST);
        fault("sets - ^not 1;" + REST);
        fault("sets 1 < 2 ^< 3;" + REST);
        fault("sets 1 = 2 ^< 3;" + REST);
        fault("sets 1 ^> 2;" + REST);
        fault("sets 1 +^\t2;" + REST);
        fault("sets 1 * ^;" + REST);
        fault("sets 1 + ^;" + REST);
        fault("sets 1 - ^;" + REST);
        fault("sets 1 < ^;" + REST);
        fault("sets 1 = ^;" + REST);
        fault("sets 1 or ^;" + REST);
        fault("sets 1 and ^;" + REST);
        fault("sets not ^;" + REST);
        fault("sets - ^;" + REST);
        fault("sets (1 or ^);" + REST);
        fault("sets ^* 1;" + REST);
        fault("sets ^+ 1;" + REST);
        fault("sets (1^;" + REST);
        fault("sets (1^");
        fault("sets 1^);" + REST);
        fault("sets (^);" + REST);
        fault("sets ^Fond;" + REST);
        fault("sets fond^Duty;" + REST);
        fault("sets 1 ^2 x;" + REST);
        fault("^x sets 1;" + REST);
        fault("sets ^" + (char) 233 + ";" + REST);
    }

    private static void depth() {
        good("sets (((((1)))));" + REST);
        fault("sets (((((^(1))))));" + REST);
        good("sets -----1;" + REST);
        fault("sets -----^-1;" + REST);
        good("sets not not not not not 1;" + REST);
        fault("sets not not not not not ^not 1;" + REST);
        fault("sets not(-(not^((1))));" + REST);
        fault("sets not(-(-^-1));" + REST);
        good("sets not(-(-1))+(((1)))-1;" + REST);
        good("sets -----1------1;" + REST);
        fault("sets -----1------^-1;" + REST);
        good("sets (((((1)))))*(((((1)))))+(((((1)))));" + REST);
        good("sets not not not not not 1 and not not not not not 1;" + REST);
        fault("sets not (1) < ((((^(1)))));" + REST);
        good("sets not (1) < ((((1))));" + REST);
    }

    /** What an E of numbers alone is, told by tires (-99 .. 99). */
    private static int valueOf(String e) {
        AlarmsOfFondness x = new AlarmsOfFondness();
        x.person(0, 0, 0);
        due("[" + e + "] is an E", Checks.textOf(x, "sets 0; tires " + e + "; grows 0;"), 1);
        x.force(1);
        return x.woken(0, 0);
    }

    private static void value(String e, int want) {
        due(e, valueOf(e), want);
    }

    private static void values() {
        value("2+3*4", 14);
        value("2*3+4", 10);
        value("(2+3)*4", 20);
        value("10-4-3", 3);
        value("10-(4-3)", 9);
        value("-3*2", -6);
        value("2*-3", -6);
        value("-(2+3)", -5);
        value("--7", 7);
        value("3<4", 1);
        value("4<4", 0);
        value("5<4", 0);
        value("4=4", 1);
        value("4=5", 0);
        value("1+1<3", 1);
        value("not 0", 1);
        value("not 7", 0);
        value("not not 7", 1);
        value("not 3<2", 1);
        value("not 3 + 1", 0);
        value("5 or 0", 1);
        value("0 or 0", 0);
        value("5 and 6", 1);
        value("5 and 0", 0);
        value("0 and 5", 0);
        value("1 and 1", 1);
        value("0 or 1", 1);
        value("0 and 0 or 1", 1);
        value("1 or 0 and 0", 1);
        value("(1 or 0) and 0", 0);
        value("-1 and -1", 1);
        value("0 or -1", 1);
        value("0099", 99);
        value("100", 99);
        value("-100", -99);
    }

    /** At each of six levels a number waits for or, and, <, +, *; all of them matter for what comes out. */
    private static void mostThatWait() {
        for (int inmost = 0; inmost < 2; inmost++) {
            StringBuilder e = new StringBuilder(String.valueOf(inmost));
            for (int level = 0; level < 6; level++) {
                e.insert(0, "0or 1and 0<0+1*" + (level == 0 ? "" : "(")).append(level == 0 ? "" : ")");
            }
            value(e.toString(), inmost);
            value(e.toString().replace("0or", "7or"), 1);
            value(e.toString().replace("1and", "0and"), 0);
            value(e.toString().replace("0<0+", "0<1+"), 1);
            value(e.toString().replace("0<0+", "1<1+"), inmost);
            value(e.toString().replace("0+1*", "0+0*"), 0);
        }
    }

    private static void afterFaults() {
        AlarmsOfFondness x = new AlarmsOfFondness();
        x.person(0, 0, 0);
        x.person(0, 0, 0);
        for (int i = 0; i < 5; i++) {
            String wrongAtEnd = "sets 1+2+3+4+5+6+7+8+9+1+2+3+4+5+6+7+8+9; tires 1<2+3+4 or 5; grows 1 2";
            due("a FAULT", Checks.textOf(x, wrongAtEnd), -100 - (wrongAtEnd.length() - 1));
        }
        due("a text behind FAULTS", Checks.textOf(x, "sets 4 + 5; tires 3 - 1; grows 2 * 4;"), 1);
        x.force(1);
        due("sets", x.asks(0, 1, 0), 9);
        due("tires", x.woken(0, 0), 2);
        due("grows", x.asks(0, 1, 1), 8);
        due("TEXT 0 is as it was", x.force(0), 1);
        due("sets", x.asks(0, 1, 0), 7);
    }

    /** Words and numbers that end with the last of 160 bytes. */
    private static void lastByte() {
        String begin = "sets 1; tires 2; grows 3;";
        String[] ends = {"day", "x", "7", "12345", "(", "A"};
        for (String end : ends) {
            AlarmsOfFondness x = new AlarmsOfFondness();
            Checks.feedAll(x, begin);
            while (x.count(4) < 160 - end.length()) {
                x.feed(' ');
            }
            Checks.feedAll(x, end);
            due("160 bytes", x.count(4), 160);
            due("a FAULT at the last token", x.text(), -100 - (160 - end.length()));
        }
        AlarmsOfFondness x = new AlarmsOfFondness();
        for (int i = 0; i < 160; i++) {
            x.feed(';');
        }
        due("160 tokens", x.text(), -100);
    }

    private static void wrapping() {
        value("256*256*256*128 < 0", 1);
        value("256*256*256*256 = 0", 1);
        value("256*256*256*128-1 < 0", 0);
        value("-(256*256*256*128) < 0", 1);
    }

    private static void names() {
        AlarmsOfFondness x = new AlarmsOfFondness();
        x.person(0, 3, 14);
        x.person(0, 5, 17);
        x.set(0, 0, 21);
        x.set(3, 0, 31);
        x.set(3, 1, 36);
        x.set(4, 0, 41);
        x.set(4, 1, 46);
        x.set(6, 1, 7);
        x.set(6, 10, 8);
        String[] names = {"fond", "duty", "number", "day", "tired", "missed"};
        int[] ofOneAndOther = {7, 17, 3, 21, 31, 46};
        int[] ofOneAlone = {0, 14, 3, 21, 31, 41};
        for (int i = 0; i < 5; i++) {
            due("a text of " + names[i], Checks.textOf(x, "sets " + names[i] + "; tires " + names[i] + "; grows " + names[i] + ";"), i + 1);
        }
        for (int i = 0; i < 5; i++) {
            x.force(i + 1);
            due(names[i] + " by sets", x.asks(0, 1, 0), Math.min(23, ofOneAndOther[i]));
            due(names[i] + " by grows", x.asks(0, 1, 1), ofOneAndOther[i]);
            due(names[i] + " by grows, not late", x.asks(0, 1, 2), ofOneAndOther[i]);
            due(names[i] + " by tires", x.woken(0, 0), ofOneAlone[i]);
        }
    }

    private static void missed() {
        AlarmsOfFondness x = new AlarmsOfFondness();
        x.person(0, 3, 14);
        x.person(0, 5, 17);
        x.set(4, 0, 41);
        x.set(4, 1, 46);
        Checks.textOf(x, "sets missed - 30; tires missed; grows missed;");
        x.force(1);
        due("missed by sets", x.asks(0, 1, 0), 16);
        due("missed by grows", x.asks(0, 1, 1), 46);
        due("missed by tires", x.woken(0, 0), 41);
    }
}
