/** The bounds of 'Terms', ==== 1: THE TAPE, TOKENS, the FAULT, what an E is. */
public final class EdgesOfTextsTest {
    private static final int FULL = -4;
    private static final String WHOLE = "sets 1; tires 2; grows 3;";
    private static final String REST = " tires 0; grows 0;";
    private static final String KEYS_AND_NAMES = "fond duty number day tired missed sets tires grows or and not";
    private static final Edges EDGES = new Edges("EdgesOfTextsTest");

    public static void main(String[] args) {
        tape();
        words();
        numbers();
        everyByteJustBehind();
        everyByteBehind();
        everyByteBetween();
        everyByteWithin();
        blanks();
        endsTooEarly();
        wrongTokens();
        grammar();
        open();
        openBehindJoins();
        openEnds();
        sixTexts();
        behindFaults();
        textZero();
        wrapping();
        trueAndFalse();
        namesOfTires();
        boundsOfParts();
        EDGES.end();
    }

    private static void says(String words) {
        EDGES.says(words);
    }

    private static void due(String call, long got, long want) {
        EDGES.due(call, got, want);
    }

    private static int read(String text) {
        return Checks.textOf(new AlarmsOfFondness(), text);
    }

    private static void good(String text) {
        due("[" + text + "]", read(text), 1);
    }

    /** The FAULT is where the ^ stands, which is no part of the text. */
    private static void fault(String marked) {
        int place = marked.indexOf('^');
        due("[" + marked + "]", read(marked.substring(0, place) + marked.substring(place + 1)), -100 - place);
    }

    private static void tape() {
        says("THE TAPE (160 bytes at most)");
        AlarmsOfFondness x = new AlarmsOfFondness();
        Checks.feedAll(x, WHOLE);
        for (int i = WHOLE.length() + 1; i <= 160; i++) {
            due("byte " + i, x.feed(32), i);
        }
        due("byte 161", x.feed(';'), FULL);
        due("it has", x.count(4), 160);
        due("160 bytes are a TEXT, and what was FULL isn't with them", x.text(), 1);
        due("empty then", x.count(4), 0);
        due("a byte again", x.feed(32), 1);
    }

    private static void words() {
        says("TOKENS, each as long as can be: WORDS (a .. z)");
        for (String word : KEYS_AND_NAMES.split(" ")) {
            boolean name = "fond duty number day tired missed".contains(word);
            if (name) {
                good("sets " + word + ";" + REST);
                good("sets(" + word + ")*9" + "-" + word + ";" + REST);
            }
            fault("sets ^" + word + "a;" + REST);
            fault("sets ^" + word + "z;" + REST);
            fault("sets ^b" + word.substring(1) + ";" + REST);
            fault("sets ^" + word.substring(0, word.length() - 1) + "b;" + REST);
            fault("sets ^z" + word + ";" + REST);
            fault("sets ^" + word.substring(1) + ";" + REST);
            fault("sets ^" + word.substring(0, word.length() - 1) + ";" + REST);
            fault("sets ^" + word + word + ";" + REST);
            fault("sets ^" + word.toUpperCase(java.util.Locale.ROOT) + ";" + REST);
        }
        good("sets1;tires2;grows3;");
        good("sets 1or 1and not 1;" + REST);
        fault("sets 1^orand 1;" + REST);
        says("a WORD that is neither KEY nor NAME");
        fault("sets ^a;" + REST);
        fault("sets ^z;" + REST);
        fault("^aaaaaaaaaaaaaaaaaaaaaaaaaaaaaaaaaaaaaaaaaaaaaaa");
        fault(WHOLE + "^z");
        StringBuilder last = new StringBuilder(WHOLE);
        while (last.length() < 159) {
            last.append(' ');
        }
        fault(last + "^z");
        fault(last.substring(0, 157) + "^day");
        insteadOfEachToken("fon");
    }

    /** What is no TOKEN can't stand where any TOKEN can. */
    private static void insteadOfEachToken(String none) {
        String[] tokens = {"sets", "1", "or", "2", "and", "not", "3", "<", "(", "4", ")", ";", "tires", "5", "+", "6", ";",
            "grows", "-", "7", "*", "day", ";"};
        for (int instead = 0; instead < tokens.length; instead++) {
            StringBuilder text = new StringBuilder();
            for (int i = 0; i < tokens.length; i++) {
                text.append(i == instead ? "^" + none : tokens[i]).append(' ');
            }
            fault(text.toString());
        }
        good(String.join(" ", tokens));
    }

    private static void numbers() {
        says("NUMBERS (as many digits as stand there, 4 at most)");
        good("sets 0;" + REST);
        good("sets 9999;" + REST);
        good("sets 0000;" + REST);
        fault("sets 1 ^1;" + REST);
        says("a NUMBER that is too long");
        fault("sets ^10000;" + REST);
        fault("sets ^00000;" + REST);
        fault("sets 1 + ^123456789012345678901234567890;" + REST);
        fault(WHOLE + "^12345");
        fault("^12345");
        insteadOfEachToken("12345");
    }

    /** Each byte just behind a NAME, a KEY and a NUMBER, and a digit just behind that. */
    private static void everyByteJustBehind() {
        says("TOKENS, each as long as can be");
        for (int b = 0; b < 256; b++) {
            boolean letter = b >= 'a' && b <= 'z';
            boolean digit = b >= '0' && b <= '9';
            boolean blank = b == 32 || b == 10;
            boolean joins = "+-*<=".indexOf(b) >= 0;
            boolean ends = blank || b == ';';
            boolean begins = digit || blank || b == '-';
            justBehind("sets day", b, joins, letter ? 5 : ends ? 9 : 8);
            justBehind("sets 99", b, joins || digit, ends ? 8 : 7);
            justBehind("sets", b, begins, letter ? 0 : b == '(' ? 6 : 4);
            justBehind("sets not", b, begins, letter ? 5 : b == '(' ? 10 : 8);
            justBehind("sets 1 or", b, begins, letter ? 7 : b == '(' ? 11 : 9);
            justBehind("sets 1 and", b, begins, letter ? 7 : b == '(' ? 12 : 10);
        }
    }

    private static void justBehind(String ahead, int b, boolean good, int fault) {
        due("[" + ahead + "], byte " + b + ", [1]", read(ahead + (char) b + "1;" + REST), good ? 1 : -100 - fault);
    }

    /** Each byte behind a whole TEXT. */
    private static void everyByteBehind() {
        says("the place of the first byte of the first TOKEN that can't stand there");
        for (int b = 0; b < 256; b++) {
            boolean blank = b == 32 || b == 10;
            due("byte " + b + " behind", read(WHOLE + (char) b), blank ? 1 : -100 - WHOLE.length());
            due("byte " + b + " and more", read(WHOLE + " " + (char) b + ";"),
                    -100 - WHOLE.length() - (blank ? 2 : 1));
        }
    }

    /** Each byte between two numbers. */
    private static void everyByteBetween() {
        says("SIGNS ( ) ; + - * < = ;");
        String before = "sets 7 ";
        for (int b = 0; b < 256; b++) {
            boolean joins = "+-*<=".indexOf(b) >= 0;
            boolean blankOrEnd = b == 32 || b == 10 || b == ';';
            int fault = before.length() + (blankOrEnd ? 2 : 0);
            due("byte " + b + " between", read(before + (char) b + " 7;" + REST), joins ? 1 : -100 - fault);
        }
    }

    /** Each byte ahead of all, and where a ONE must stand. */
    private static void everyByteWithin() {
        says("also of a byte that begins none");
        for (int b = 0; b < 256; b++) {
            boolean blank = b == 32 || b == 10;
            due("byte " + b + " ahead", read((char) b + " " + WHOLE), blank ? 1 : -100);
            boolean one = b >= '0' && b <= '9';
            int fault = "sets ".length() + (blank || b == '-' || b == '(' ? 1 : 0);
            due("byte " + b + " as ONE", read("sets " + (char) b + ";" + REST), one ? 1 : -100 - fault);
        }
        insteadOfEachToken("?");
        insteadOfEachToken("F");
        insteadOfEachToken(">");
    }

    private static void blanks() {
        says("blanks (32, 10) may stand between");
        good("\n \nsets\n1\n;\ntires\n2\n;\ngrows\n3\n;\n \n");
        good("sets1;tires2;grows3;");
        fault("sets 1^\t;" + REST);
        fault("sets 1^\r\n;" + REST);
        fault("sets 1^" + (char) 160 + ";" + REST);
        fault("^se ts 1;" + REST);
        fault("sets 1 ^2;" + REST);
    }

    private static void endsTooEarly() {
        says("(the text's size, if it ends too early)");
        String[] tokens = {"sets", "1", ";", "tires", "(", "2", ")", ";", "grows", "not", "-", "3", "<", "4", ";"};
        StringBuilder text = new StringBuilder();
        for (String token : tokens) {
            due("[" + text + "]", read(text.toString()), -100 - text.length());
            due("[" + text + "] and blanks", read(text + "  \n"), -100 - text.length() - 3);
            text.append(token).append(' ');
        }
        good(text.toString());
        String[] last = {"12", "123", "1234", "fond", "day", "1 or", "1 and", "not", "(1", "1)", "-", "1 <", "1 ="};
        for (String l : last) {
            fault("sets " + (l.equals("1)") ? "(" : "") + l + "^");
        }
        fault("sets ^12345");
        fault("sets ^fon");
        fault("^set");
        for (int letter = 'a'; letter <= 'z'; letter++) {
            due("of 160 bytes the last: " + (char) letter, read(" ".repeat(159) + (char) letter), -259);
        }
        AlarmsOfFondness x = new AlarmsOfFondness();
        due("an empty tape", x.text(), -100);
        for (int i = 0; i < 160; i++) {
            x.feed(i < 4 ? "sets".charAt(i) : ' ');
        }
        due("of 160 bytes", x.text(), -100 - 160);
        StringBuilder most = new StringBuilder("sets 1");
        while (most.length() < 158) {
            most.append("+1");
        }
        due("of 158 bytes", read(most.toString()), -258);
        due("of 160 bytes", read(most + "*1"), -260);
        StringBuilder first = new StringBuilder();
        while (first.length() < 160) {
            first.append(';');
        }
        due("of 160 TOKENS the first", read(first.toString()), -100);
    }

    private static void wrongTokens() {
        says("TEXT: sets E ; tires E ; grows E ; E: AND { or AND }.");
        fault("^");
        fault("^1");
        fault("^;");
        fault("^tires 1; tires 1; grows 1;");
        fault("sets 1; ^sets 1; grows 1;");
        fault("sets 1; tires 1; ^tires 1;");
        fault("sets 1; tires 1; grows 1; ^grows 1;");
        fault("sets 1 ^tires 1; grows 1;");
        fault("sets 1;^; tires 1; grows 1;");
        fault("sets ^; tires 1; grows 1;");
        says("sets, tires, grows, or, and, not are KEYS");
        fault("sets ^sets;" + REST);
        fault("sets ^tires;" + REST);
        fault("sets ^grows;" + REST);
        fault("sets ^or;" + REST);
        fault("sets ^and;" + REST);
        fault("sets not ^;" + REST);
        fault("sets 1 ^not 1;" + REST);
        fault("^fond 1;" + REST);
    }

    private static void grammar() {
        says("AND: NOT { and NOT }. NOT: not NOT, or SUM, perhaps < or = and a SUM.");
        good("sets 1 < 2 and 1 = 2 or not not 3 < 4;" + REST);
        fault("sets 1 < 2 ^< 3;" + REST);
        fault("sets 1 = 2 ^= 3;" + REST);
        fault("sets 1 < ^= 3;" + REST);
        fault("sets 1 < ^not 3;" + REST);
        fault("sets 1 or ^;" + REST);
        fault("sets 1 and ^or 1;" + REST);
        says("SUM: TERM { + or - TERM }. TERM: ONE { * ONE }. ONE: a NUMBER, a NAME, - ONE, ( E ).");
        good("sets 1 - -1 + -fond * -(1 or 2);" + REST);
        String[] joins = {"+", "-", "*", "<", "=", "or", "and"};
        for (String join : joins) {
            fault("sets 1 " + join + " ^;" + REST);
            fault("sets (1 " + join + " ^);" + REST);
            fault("sets 1; tires 1; grows 1 " + join + " ^");
        }
        fault("sets 1 + ^+ 1;" + REST);
        fault("sets 1 * ^* 1;" + REST);
        fault("sets - ^+ 1;" + REST);
        fault("sets 1 - ^not 1;" + REST);
        fault("sets 1 * ^not 1;" + REST);
        fault("sets (^);" + REST);
        fault("sets (1 ^2);" + REST);
        fault("sets (1)^);" + REST);
        fault("sets (1 ^;);" + REST);
        fault("sets 1 ^(2);" + REST);
    }

    private static void open() {
        says("a ( , a not, a - ahead of a ONE while 5 of these are open");
        String[] opens = {"(", "not ", "-"};
        String[] closes = {")", "", ""};
        int[][] ways = {{0, 0, 0, 0, 0}, {1, 1, 1, 1, 1}, {2, 2, 2, 2, 2}, {0, 1, 0, 2, 0}, {1, 2, 0, 1, 0},
            {1, 0, 0, 2, 2}, {0, 0, 1, 1, 2}};
        for (int[] way : ways) {
            StringBuilder ahead = new StringBuilder("sets ");
            StringBuilder behind = new StringBuilder();
            for (int w : way) {
                ahead.append(opens[w]);
                behind.insert(0, closes[w]);
            }
            good(ahead + "1" + behind + ";" + REST);
            fault(ahead + "^(1)" + behind + ";" + REST);
            fault(ahead + "^-1" + behind + ";" + REST);
            fault(ahead + "1 + ^" + "not 1" + behind + ";" + REST);
            fault(ahead + "^not 1" + behind + ";" + REST);
            if (way[4] != 2) {
                good(ahead + "1 < 1" + behind + ";" + REST);
            }
        }
        deepest();
        good("sets 1; tires (((((1))))); grows -----1;");
        fault("sets 1; tires (((((^(1)))))); grows 1;");
        fault("sets 1; tires 1; grows -----^-1;");
    }

    /** Five are open, and at each level something waits for what is within. */
    private static void deepest() {
        for (int inmost = 0; inmost < 2; inmost++) {
            String e = "0or 1and 0<0+1*" + inmost;
            for (int level = 0; level < 5; level++) {
                e = "0or 1and 0<0+1*(" + e + ")";
            }
            value(e, inmost);
            value(e.replace("1and", "0and"), 0);
        }
    }

    /** What stands ahead of a join keeps no more open, and no less, for what stands behind it. */
    private static void openBehindJoins() {
        says("while 5 of these are open");
        String[] joins = {"+", "-", "*", "<", "=", "or", "and"};
        for (String join : joins) {
            String j = " " + join + " ";
            good("sets (((((1" + j + "1)))));" + REST);
            good("sets ((((1" + j + "(1)))));" + REST);
            good("sets ((((1" + j + "-1))));" + REST);
            good("sets ((((-1" + j + "(1)))));" + REST);
            good("sets ((((1)" + j + "((1)))));" + REST);
            good("sets (((((1)))))" + j + "(((((1)))));" + REST);
            good("sets -----1" + j + "-----1;" + REST);
            fault("sets (((((1" + j + "^(1))))));" + REST);
            fault("sets (((((1" + j + "^-1)))));" + REST);
            fault("sets ((((1" + j + "(^(1))))));" + REST);
            fault("sets ((((1" + j + "-^-1))));" + REST);
            fault("sets (((((1" + j + "1" + j.replace('<', '+').replace('=', '+') + "^(1))))));" + REST);
        }
        for (int i = 5; i < 7; i++) {
            String j = " " + joins[i] + " ";
            good("sets ((((1" + j + "not 1))));" + REST);
            fault("sets ((((1" + j + "not ^(1)))));" + REST);
            fault("sets (((((1" + j + "^not 1)))));" + REST);
            fault("sets (((((1" + j + "1" + j + "^not 1)))));" + REST);
        }
    }

    private static void openEnds() {
        says("(a ( till its ) , not and - till what they belong to ends)");
        good("sets (((((1)))))+(((((1)))))*(((((1)))));" + REST);
        good("sets -----1-----1;" + REST);
        good("sets -----1------1;" + REST);
        fault("sets -----1------^-1;" + REST);
        good("sets not not not not not 1 and not not not not not 1;" + REST);
        good("sets not not not not not 1 or (((((1)))));" + REST);
        fault("sets not not not not not 1 < ^(1);" + REST);
        fault("sets not not not not not 1 + ^-1;" + REST);
        fault("sets not not not not 1 * -^(1);" + REST);
        good("sets not not not not 1 * (1) + -1 < (2);" + REST);
        good("sets ----(1) * ----(1);" + REST);
        fault("sets ----(^-1);" + REST);
        good("sets ((((-1 + -1))));" + REST);
        good("sets ((((not 1 and not 1))));" + REST);
        fault("sets ((((not 1 < ^-1))));" + REST);
    }

    private static void sixTexts() {
        says("There are 6 TEXTS at most, TEXT 0 with them.");
        AlarmsOfFondness x = new AlarmsOfFondness();
        due("at first", x.count(3), 1);
        due("force(0)", x.force(0), 0);
        for (int i = 1; i <= 5; i++) {
            due("a FAULT makes none", Checks.textOf(x, "sets"), -104);
            due("force(" + i + ") ahead of it", x.force(i), -2);
            due("text", Checks.textOf(x, "sets " + i + ";" + REST), i);
        }
        due("all", x.count(3), 6);
        due("a seventh", Checks.textOf(x, WHOLE), FULL);
        due("all", x.count(3), 6);
        due("force(6)", x.force(6), -2);
        x.person(0, 0, 0);
        x.person(0, 0, 0);
        int was = 0;
        for (int i = 5; i >= 0; i--) {
            due("force(" + i + ")", x.force(i), was);
            due("it tells", x.asks(0, 1, 0), i == 0 ? 7 : i);
            was = i;
        }
    }

    private static void behindFaults() {
        says("THE TAPE, which is empty then (by a FAULT, too), is a TEXT");
        StringBuilder sum = new StringBuilder("sets 1");
        while (sum.length() < 158) {
            sum.append("+1");
        }
        AlarmsOfFondness x = new AlarmsOfFondness();
        x.person(0, 0, 0);
        x.person(0, 0, 0);
        for (int number = 1; number < 6; number++) {
            due("a FAULT behind many TOKENS", Checks.textOf(x, sum + "?"), -100 - sum.length());
            due("a FAULT in grows", Checks.textOf(x, "sets 9; tires 9; grows 9"), -124);
            String twelve = "1+1+1+1+1+1+1+1+1+1+1+" + number;
            String text = "sets " + twelve + ";tires " + twelve + ";grows " + twelve + ";";
            due("a TEXT behind it", Checks.textOf(x, text), number);
            x.force(number);
            due("it SETS with nothing of those", x.asks(0, 1, 0), 11 + number);
            due("it TIRES", x.woken(0, 0), 11 + number);
            due("it GROWS", x.asks(0, 1, 2), 11 + number);
        }
    }

    private static void textZero() {
        says("TEXT 0, at first THE RULE, is: sets 6 + fond ; tires 3 ; grows 0 ;");
        AlarmsOfFondness x = new AlarmsOfFondness();
        x.person(0, 0, 0);
        x.person(0, 0, 0);
        due("THE RULE", x.count(5), 0);
        for (int fond = 0; fond <= 9; fond++) {
            x.set(6, 1, fond);
            due("fond " + fond, x.asks(0, 1, 0), 6 + fond);
        }
        due("tires", x.woken(0, 0), 3);
        due("grows", x.asks(0, 1, 1), 0);
        due("grows", x.asks(0, 1, 2), 0);
    }

    /** What an E of numbers alone is, told by grows (-99 .. 99). */
    private static void value(String e, int want) {
        AlarmsOfFondness x = new AlarmsOfFondness();
        x.person(0, 0, 0);
        x.person(0, 0, 0);
        int number = Checks.textOf(x, "sets 0; tires 0; grows " + e + ";");
        x.force(1);
        due(e, number == 1 ? x.asks(0, 1, 1) : number - 1000, want);
    }

    private static void wrapping() {
        says("An E is an int (32 bits, wrapping)");
        String least = "(4096*4096*128)";
        value(least + " < 0", 1);
        value(least + " - 1 < 0", 0);
        value(least + " - 1 + 1 = " + least, 1);
        value("-" + least + " = " + least, 1);
        value(least + " * 2", 0);
        value(least + " + " + least, 0);
        value("4096*4096*256", 0);
        value("4096*4096*256 + 5", 5);
        value("(" + least + " - 1) * (" + least + " - 1)", 1);
        value("(" + least + " - 1) + (" + least + " - 1)", -2);
        value("9999*9999*9999 < 0", 9999 * 9999 * 9999 < 0 ? 1 : 0);
        value("0 - 1 - " + least + " < 0", 0);
    }

    private static void trueAndFalse() {
        says("of or, and, not, <, = 1 or 0 (what is not 0 is true)");
        int[] of = {-1, 0, 1, 2};
        for (int a : of) {
            value("not " + a, a == 0 ? 1 : 0);
            value("not not " + a, a != 0 ? 1 : 0);
            for (int b : of) {
                value(a + " or " + b, a != 0 || b != 0 ? 1 : 0);
                value(a + " and " + b, a != 0 && b != 0 ? 1 : 0);
                value(a + " < " + b, a < b ? 1 : 0);
                value(a + " = " + b, a == b ? 1 : 0);
            }
        }
    }

    private static void namesOfTires() {
        says("Of one of PEOPLE and another one (of tires none): fond: how FOND it is of that one (of tires 0); "
                + "duty: DUTY of that one (of tires one's own); number: NUMBER; day: DAY; tired: how TIRED; "
                + "missed: how often that one has MISSED it (of tires one's own).");
        String[] names = {"fond", "duty", "number", "day", "tired", "missed"};
        int[] byGrows = {9, 23, 8, 50, 97, 88};
        int[] byTires = {0, 22, 8, 50, 97, 99};
        int[] byAnother = {3, 22, 6, 50, 0, 99};
        int[] byOneself = {0, 23, 7, 50, 98, 88};
        for (int i = 0; i < 6; i++) {
            AlarmsOfFondness x = new AlarmsOfFondness();
            x.person(0, 8, 22);
            x.person(0, 7, 23);
            x.person(0, 6, 21);
            x.set(0, 0, 50);
            x.set(3, 0, 97);
            x.set(3, 1, 98);
            x.set(4, 0, 99);
            x.set(4, 1, 88);
            x.set(6, 1, 9);
            x.set(6, 10, 2);
            x.set(6, 20, 3);
            x.set(6, 21, 4);
            String n = names[i];
            Checks.textOf(x, "sets " + n + " ; tires " + n + " ; grows " + n + " ;");
            x.force(1);
            due(n + " of sets", x.asks(0, 1, 0), Math.min(23, byGrows[i]));
            due(n + " of tires", x.woken(0, 0), byTires[i]);
            due(n + " of grows, late", x.asks(0, 1, 1), byGrows[i]);
            due(n + " of grows", x.asks(0, 1, 2), byGrows[i]);
            due(n + " of sets, another", x.asks(2, 0, 0), Math.min(23, byAnother[i]));
            due(n + " of grows, another", x.asks(2, 0, 2), byAnother[i]);
            due(n + " of tires, another", x.woken(1, 0), byOneself[i]);
            due(n + " of grows, another, late", x.asks(2, 0, 1), byAnother[i]);
        }
    }

    private static int told(int kind, String text, int what) {
        AlarmsOfFondness x = new AlarmsOfFondness();
        x.person(kind, 0, 0);
        x.person(0, 0, 0);
        x.set(0, 0, 1);
        int number = Checks.textOf(x, text);
        x.force(1);
        return number != 1 ? -5000 : what == 3 ? x.woken(0, 6) : x.asks(0, 1, what);
    }

    private static void boundsOfParts() {
        says("sets (0 .. 99, else the bound), tires, grows (-99 .. 99, else the bound)");
        due("a MOTHER's hour: 2 more than the bound 0", told(1, "sets -1;" + REST, 0), 2);
        due("and than 0", told(1, "sets 0;" + REST, 0), 2);
        due("far below", told(1, "sets -9999*9999;" + REST, 0), 2);
        due("far above", told(2, "sets 9999*9999;" + REST, 0), 23);
        due("half of the bound 99", told(1, "sets 0; tires 100; grows 0;", 3), 49);
        due("half of the bound 99", told(1, "sets 0; tires 9999*9999; grows 0;", 3), 49);
        due("half of 98", told(1, "sets 0; tires 98; grows 0;", 3), 49);
        due("half of the bound -99", told(1, "sets 0; tires -100; grows 0;", 3), -49);
        due("half of the bound -99", told(1, "sets 0; tires -9999*9999; grows 0;", 3), -49);
        due("99", told(0, "sets 0; tires 99; grows 0;", 3), 99);
        due("-99", told(0, "sets 0; tires -99; grows 0;", 3), -99);
        int[] of = {98, 99, 100, 9999};
        for (int v : of) {
            due("grows " + v, told(0, "sets 0; tires 0; grows " + v + ";", 1), Math.min(99, v));
            due("grows -" + v, told(0, "sets 0; tires 0; grows -" + v + ";", 1), -Math.min(99, v));
            due("a CHILD: 1 more", told(3, "sets 0; tires 0; grows " + v + ";", 2), Math.min(99, v) + 1);
            due("a HUSBAND: less", told(2, "sets 0; tires 0; grows -" + v + ";", 2), Math.min(99, v));
        }
    }
}
