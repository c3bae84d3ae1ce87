import java.util.Random;

/** Runs of drawn calls (seeds are fixed), each answered by the class and by the Oracle alike. */
public final class AgainstOracleTest {
    private static final int[] WILD = {Integer.MIN_VALUE, Integer.MAX_VALUE, -1, -2, -3, -10, 5, 6, 7, 9, 10, 11,
        20, 21, 23, 24, 39, 40, 41, 99, 100, 159, 255, 256, 999, 1000, 9999, 10000, 1 << 30, Integer.MAX_VALUE - 2};
    private static final String[] TOKENS = {"fond", "duty", "number", "day", "tired", "missed", "sets", "tires",
        "grows", "or", "and", "not", "(", ")", ";", "+", "-", "*", "<", "=", "0", "1", "7", "12", "9999", "10000",
        "00005", "x", "A", "\t", "\n", " ", "fondduty", "nots"};

    private final Random random;
    private final AlarmsOfFondness x = new AlarmsOfFondness();
    private final Oracle o = new Oracle();
    private final Checks checks;
    private final int run;
    private final StringBuilder story = new StringBuilder();

    private AgainstOracleTest(Checks checks, int run) {
        this.checks = checks;
        this.run = run;
        this.random = new Random(run);
    }

    public static void main(String[] args) {
        int runs = args.length > 0 ? Integer.parseInt(args[0]) : 1500;
        Checks checks = new Checks("AgainstOracleTest");
        for (int run = 0; run < runs; run++) {
            new AgainstOracleTest(checks, run).go();
        }
        checks.end();
    }

    private void go() {
        int calls = 0;
        while (calls < 512) {
            int before = calls;
            calls += random.nextInt(12) == 0 ? tape(512 - calls) : 1;
            if (calls == before + 1) {
                call();
            }
        }
    }

    private int upTo(int n) {
        return random.nextInt(n + 1);
    }

    /** Mostly a number of a range, at times one beside it. */
    private int some(int least, int most) {
        if (random.nextInt(40) == 0) {
            return WILD[random.nextInt(WILD.length)];
        }
        if (random.nextInt(25) == 0) {
            return random.nextBoolean() ? least - 1 : most + 1;
        }
        return least + random.nextInt(most - least + 1);
    }

    private int one() {
        int n = o.world.all.size();
        return some(0, Math.max(0, n - 1));
    }

    private int place() {
        return random.nextInt(20) == 0 ? some(-11, 60) : 10 * one() + one();
    }

    private int tape(int room) {
        String text = random.nextInt(4) == 0 ? wildText() : goodText();
        if (text.length() + 2 > room) {
            text = "";
        }
        for (int i = 0; i < text.length(); i++) {
            int b = text.charAt(i);
            due("feed(" + b + ")", x.feed(b), o.feed(b));
        }
        due("text()", x.text(), o.text());
        int v = random.nextInt(o.texts.size());
        due("force(" + v + ")", x.force(v), o.force(v));
        return text.length() + 2;
    }

    private String wildText() {
        StringBuilder b = new StringBuilder();
        if (random.nextBoolean()) {
            b.append(goodText());
            for (int i = upTo(2); i >= 0 && b.length() > 0; i--) {
                int at = random.nextInt(b.length());
                b.replace(at, at + upTo(1), TOKENS[random.nextInt(TOKENS.length)]);
            }
        } else {
            b.append("sets ");
            for (int i = upTo(20); i >= 0; i--) {
                b.append(TOKENS[random.nextInt(TOKENS.length)]).append(random.nextBoolean() ? " " : "");
            }
        }
        return b.length() > 165 ? b.substring(0, 165) : b.toString();
    }

    private String goodText() {
        String text;
        do {
            text = "sets " + e(3) + blank() + ";tires " + e(2) + ";" + blank() + "grows " + e(2) + blank() + ";" + blank();
        } while (text.length() > 160);
        return text;
    }

    private String blank() {
        return random.nextInt(3) == 0 ? " " : random.nextInt(9) == 0 ? "\n " : "";
    }

    private String e(int deep) {
        int which = deep <= 0 ? random.nextInt(3) : random.nextInt(12);
        switch (which) {
            case 0:
            case 1:
                return TOKENS[random.nextInt(6)];
            case 2:
                return String.valueOf(random.nextInt(random.nextBoolean() ? 24 : 3));
            case 3:
                return "(" + e(deep - 1) + " or " + e(deep - 1) + ")";
            case 4:
                return "(" + e(deep - 1) + " and not " + e(deep - 1) + ")";
            case 5:
                return "(" + e(deep - 1) + "<" + e(deep - 1) + ")";
            case 6:
                return "(" + e(deep - 1) + "=" + e(deep - 1) + ")";
            case 7:
                return e(deep - 1) + "*" + e(deep - 1);
            case 8:
                return "-" + e(deep - 1);
            case 9:
                return e(deep - 1) + "-" + e(deep - 1);
            default:
                return e(deep - 1) + "+" + e(deep - 1);
        }
    }

    private void due(String call, long got, long want) {
        story.append(call).append(' ');
        checks.due("run " + run + ": " + (got == want ? call : story.toString()), got, want);
    }

    private void call() {
        int which = random.nextInt(34);
        if (which < 8) {
            people(which);
        } else if (which < 17) {
            daysAndBest(which);
        } else if (which < 26) {
            waking(which);
        } else {
            host(which);
        }
    }

    private void people(int which) {
        int a;
        int b;
        int c;
        switch (which) {
            case 0:
                a = some(0, 5); b = some(0, 9); c = some(0, 23);
                if (o.world.all.size() < 5 || random.nextInt(9) == 0) {
                    due("person(" + a + ", " + b + ", " + c + ")", x.person(a, b, c), o.person(a, b, c));
                }
                break;
            case 1:
            case 2:
                a = some(0, 6);
                b = a == 6 ? place() : one();
                int[] most = {999, 9, 23, 99, 99, 9999, 9};
                c = some(0, a >= 0 && a <= 6 ? most[a] : 9);
                due("set(" + a + ", " + b + ", " + c + ")", x.set(a, b, c), o.set(a, b, c));
                break;
            case 3:
                a = place(); b = random.nextInt(4) == 0 ? 0 : some(0, 9);
                due("set(6, " + a + ", " + b + ")", x.set(6, a, b), o.set(6, a, b));
                break;
            case 4:
            case 5:
                b = some(0, 11);
                a = b == 6 ? place() : one();
                due("told(" + a + ", " + b + ")", x.told(a, b), o.told(a, b));
                break;
            case 6:
                a = one(); b = one(); c = some(0, 2);
                due("asks(" + a + ", " + b + ", " + c + ")", x.asks(a, b, c), o.asks(a, b, c));
                break;
            default:
                a = one(); b = some(0, 23);
                due("woken(" + a + ", " + b + ")", x.woken(a, b), o.woken(a, b));
                break;
        }
    }

    private void daysAndBest(int which) {
        int a;
        int b;
        int c;
        switch (which) {
            case 8:
            case 9:
                due("day()", x.day(), o.day());
                break;
            case 10:
                a = one(); b = some(0, 40); c = some(0, 4);
                due("run(" + a + ", " + b + ", " + c + ")", x.run(a, b, c), o.run(a, b, c));
                break;
            case 11:
                a = one();
                due("round(" + a + ")", x.round(a), o.round(a));
                break;
            case 12:
                a = some(0, 1);
                if (random.nextInt(8) == 0) {
                    due("others(" + a + ")", x.others(a), o.others(a));
                }
                break;
            case 13:
                a = one(); b = some(0, 20); c = some(0, 1);
                due("duty(" + a + ", " + b + ", " + c + ")", x.duty(a, b, c), o.duty(a, b, c));
                break;
            case 14:
                a = one(); b = some(0, 20); c = some(0, 1);
                due("fonder(" + a + ", " + b + ", " + c + ")", x.fonder(a, b, c), o.fonder(a, b, c));
                break;
            case 15:
                a = some(0, 1);
                due("mean(" + a + ")", x.mean(a), o.mean(a));
                break;
            default:
                a = some(0, 5);
                due("count(" + a + ")", x.count(a), o.count(a));
                break;
        }
    }

    private void waking(int which) {
        int a;
        int b;
        int c;
        int d;
        switch (which) {
            case 17:
                a = some(0, 3); b = one(); c = some(0, 20);
                due("film(" + a + ", " + b + ", " + c + ")", x.film(a, b, c), o.film(a, b, c));
                break;
            case 18:
            case 19:
            case 20:
                a = some(0, 3); b = one(); c = one(); d = some(0, 7);
                due("tells(" + a + ", " + b + ", " + c + ", " + d + ")", x.tells(a, b, c, d), o.tells(a, b, c, d));
                break;
            case 21:
            case 22:
                a = random.nextInt(); b = some(0, 40);
                due("drawn(" + a + ", " + b + ")", x.drawn(a, b), o.drawn(a, b));
                break;
            case 23:
                a = random.nextInt(); b = some(1, 20); c = random.nextBoolean() ? some(0, 12) : some(0, 99); d = some(0, 1);
                due("chance(" + a + ", " + b + ", " + c + ", " + d + ")", x.chance(a, b, c, d), o.chance(a, b, c, d));
                break;
            case 24:
                if (random.nextInt(4) == 0) {
                    due("image()", x.image(), o.image());
                }
                break;
            default:
                if (random.nextInt(4) == 0) {
                    due("back()", x.back(), o.back());
                }
                break;
        }
    }

    private void host(int which) {
        int a = some(0, 3);
        int b;
        int c;
        switch (which) {
            case 26:
                b = some(-1, 2); c = some(-1, 41);
                due("sheet(" + a + ", " + b + ", " + c + ")", x.sheet(a, b, c), o.sheet(a, b, c));
                break;
            case 27:
            case 28:
                b = some(0, 20); c = random.nextBoolean() ? some(-1, 23) : random.nextInt();
                due("cell(" + a + ", " + b + ", " + c + ")", x.cell(a, b, c), o.cell(a, b, c));
                break;
            case 29:
                rest(a);
                break;
            case 30:
            case 31:
                b = some(0, 2); c = some(0, 5);
                int from = some(0, 20);
                due("court(" + a + ", " + b + ", " + from + ", " + c + ")", x.court(a, b, from, c), o.court(a, b, from, c));
                break;
            case 32:
                b = one(); c = some(0, 5);
                due("taken(" + b + ", " + c + ")", x.taken(b, c), o.taken(b, c));
                break;
            default:
                b = some(0, 255);
                due("feed(" + b + ")", x.feed(b), o.feed(b));
                break;
        }
    }

    private void rest(int a) {
        int i = some(0, 10);
        int other = random.nextInt(3) == 0 ? a : some(0, 3);
        int j = some(0, 10);
        int n = some(0, 10);
        due("copy(" + a + ", " + i + ", " + other + ", " + j + ", " + n + ")",
                x.copy(a, i, other, j, n), o.copy(a, i, other, j, n));
    }
}
