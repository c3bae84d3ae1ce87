import java.util.ArrayList;
import java.util.List;

/**
 * "Refusals, the first that the call's words name; they change nothing": of two objects with the same calls behind
 * them one is asked what must be refused, and then both are read out to the last item and compared.
 */
public final class RefusalsTest {
    private static final int MAX = Integer.MAX_VALUE, MIN = Integer.MIN_VALUE;
    private static final int[] WRONG = {MIN, -1000, -15, -2, -1, 0, 1, 2, 4, 5, 6, 10, 24, 41, 256, 1000, 10000, MAX};
    private static final Edges EDGES = new Edges("RefusalsTest");

    public static void main(String[] args) {
        EDGES.says("Refusals, the first that the call's words name; they change nothing");
        int refused = 0;
        for (int state = 0; state < 5; state++) {
            for (int call = 0; call < CALLS; call++) {
                refused += refusalsOf(state, call);
            }
        }
        EDGES.due("calls were refused", refused > 20000 ? 1 : 0, 1);
        answersChangeNothing();
        EDGES.end();
    }

    private static AlarmsOfFondness inState(int state) {
        AlarmsOfFondness x = new AlarmsOfFondness();
        if (state == 0) {
            return x;
        }
        int[] manyOf = {0, 1, 2, 4, 5};
        for (int i = 0; i < manyOf[state]; i++) {
            x.person(i, i + 2, 5 * i + 1);
            x.set(3, i, 40 + i);
            x.set(4, i, 20 + i);
            x.set(5, i, 300 + i);
        }
        x.set(6, 1, 5);
        x.set(6, 10, 3);
        if (state != 2) {
            x.image();
        }
        x.set(0, 0, state == 4 ? 999 : 30 + state);
        for (int i = 1; i < (state == 4 ? 6 : state + 1); i++) {
            Checks.textOf(x, "sets " + i + " + fond; tires 4; grows 1;");
        }
        x.force(1);
        Checks.feedAll(x, "sets 4; tires 5; grows day");
        for (int i = 26; state == 4 && i < 160; i++) {
            x.feed(';');
        }
        for (int sheet = 0; sheet < 4; sheet++) {
            row(x, sheet, sheet == 3 ? 1 : sheet, sheet == 3 ? 3 : 22 - sheet * 2);
        }
        x.sheet(state % 3, -1, 0);
        return x;
    }

    private static void row(AlarmsOfFondness x, int sheet, int sort, int n) {
        x.sheet(sheet, sort, n);
        for (int i = 0; i < n; i++) {
            x.cell(sheet, i, (i + sheet) % 6);
        }
    }

    private static final int CALLS = 27;
    private static final int[] TAKES = {3, 3, 2, 3, 2, 1, 0, 1, 0, 3, 1, 1, 3, 3, 1, 4, 3, 2, 4, 0, 0, 1, 3, 3, 5, 4, 2};

    private static long call(AlarmsOfFondness x, int call, int[] a) {
        switch (call) {
            case 0: return x.set(a[0], a[1], a[2]);
            case 1: return x.person(a[0], a[1], a[2]);
            case 2: return x.told(a[0], a[1]);
            case 3: return x.asks(a[0], a[1], a[2]);
            case 4: return x.woken(a[0], a[1]);
            case 5: return x.feed(a[0]);
            case 6: return x.count(3) < 6 ? -4 : x.text();
            case 7: return x.force(a[0]);
            case 8: return x.count(2) < 999 ? -3 : x.day();
            case 9: return x.run(a[0], a[1], a[2]);
            case 10: return x.round(a[0]);
            case 11: return x.others(a[0]);
            case 12: return x.duty(a[0], a[1], a[2]);
            case 13: return x.fonder(a[0], a[1], a[2]);
            case 14: return x.mean(a[0]);
            case 15: return x.tells(a[0], a[1], a[2], a[3]);
            case 16: return x.film(a[0], a[1], a[2]);
            case 17: return x.drawn(a[0], a[1]);
            case 18: return x.chance(a[0], a[1], a[2], a[3]);
            case 19: return -2;
            case 20: return -3;
            case 21: return x.count(a[0]);
            case 22: return x.sheet(a[0], a[1], a[2]);
            case 23: return x.cell(a[0], a[1], a[2]);
            case 24: return x.copy(a[0], a[1], a[2], a[3], a[4]);
            case 25: return x.court(a[0], a[1], a[2], a[3]);
            default: return x.taken(a[0], a[1]);
        }
    }

    /** Of all arguments, refused and answered ones; an object that answered what may change it is thrown away. */
    private static int refusalsOf(int state, int call) {
        int takes = TAKES[call];
        int ways = 1;
        for (int i = 0; i < takes; i++) {
            ways *= WRONG.length;
        }
        int step = ways > 6000 ? ways / 3000 : 1;
        // with no divisor that WRONG.length has, too, so that every argument goes through all of WRONG
        while (step % 2 == 0 || step % 3 == 0) {
            step++;
        }
        List<Long> want = readOut(inState(state));
        AlarmsOfFondness x = inState(state);
        int refused = 0;
        for (int way = 0; way < ways; way += step) {
            int[] a = new int[5];
            int rest = way;
            for (int i = 0; i < takes; i++) {
                a[i] = WRONG[rest % WRONG.length];
                rest /= WRONG.length;
            }
            long answer = call(x, call, a);
            boolean no = answer <= -2;
            refused += no ? 1 : 0;
            boolean some = call == 25 && answer == -12;
            if (!no || some) {
                x = mayChange(call) ? inState(state) : x;
            }
        }
        List<Long> got = readOut(x);
        EDGES.due("state " + state + ", call " + call + ": read out", got.equals(want) ? 1 : 0, 1);
        return refused;
    }

    private static boolean mayChange(int call) {
        int[] changing = {0, 1, 5, 6, 7, 8, 16, 19, 20, 22, 23, 24, 25};
        for (int c : changing) {
            if (c == call) {
                return true;
            }
        }
        return false;
    }

    /** All that asks and thinks, rightly: nothing is changed by it, either. */
    private static void answersChangeNothing() {
        EDGES.says("n DAYS (0 .. 40), in thought");
        for (int state = 1; state < 5; state++) {
            AlarmsOfFondness x = inState(state);
            int many = x.count(0);
            for (int one = 0; one < many; one++) {
                for (int what = 0; what < 12; what++) {
                    x.told(one, what);
                    x.run(one, 40, what);
                    x.duty(one, 20, what);
                    x.fonder(one, 20, what);
                    x.asks(one, 0, what);
                    x.woken(one, what);
                    x.mean(what);
                    x.others(what);
                    x.count(what);
                    x.taken(one, what);
                    for (int sheet = 0; sheet < 4; sheet++) {
                        x.tells(sheet, one, many - 1, what);
                    }
                }
                x.round(one);
                x.drawn(one, 40);
                x.chance(one, 20, 3, 0);
            }
            EDGES.due("state " + state + ": read out", readOut(x).equals(readOut(inState(state))) ? 1 : 0, 1);
        }
    }

    /** Reads an object's last item and spoils it by that. SHEET 3 has room for one who comes. */
    private static List<Long> readOut(AlarmsOfFondness x) {
        List<Long> all = new ArrayList<>();
        people(x, all);
        for (int sheet = 0; sheet < 4; sheet++) {
            for (int sort = 0; sort < 3; sort++) {
                all.add((long) x.court(sheet, sort, 0, 0));
            }
            for (int i = 0; i < 41; i++) {
                all.add((long) x.copy(sheet, i, sheet, i, 1));
            }
        }
        all.add((long) x.text());
        all.add((long) x.count(3));
        all.add((long) x.count(4));
        all.add((long) x.back());
        people(x, all);
        if (x.count(0) < 5) {
            sheets(x, all);
        }
        return all;
    }

    private static void people(AlarmsOfFondness x, List<Long> all) {
        for (int what = 0; what < 6; what++) {
            all.add((long) x.count(what));
        }
        for (int one = 0; one < 5; one++) {
            for (int what = 0; what < 12; what++) {
                all.add((long) x.told(one, what));
            }
            for (int other = 0; other < 5; other++) {
                all.add((long) x.told(10 * one + other, 6));
                all.add((long) x.asks(one, other, 0));
                all.add((long) x.asks(one, other, 1));
            }
            all.add((long) x.woken(one, 3));
            all.add((long) x.run(one, 5, 2));
        }
    }

    private static void sheets(AlarmsOfFondness x, List<Long> all) {
        int one = x.count(0);
        x.image();
        all.add((long) x.court(3, 1, 0, 1));
        all.add((long) x.told(one, 7) * 1000 + x.told(one, 1) * 100 + x.told(one, 2));
        for (int sheet = 0; sheet < 3; sheet++) {
            for (int sort = 0; sort < 3; sort++) {
                x.sheet(3, sort, 3);
                for (int i = 0; i < 40 && x.copy(sheet, i, 3, 2, 1) == 1; i++) {
                    x.back();
                    all.add((long) x.court(3, sort, 0, 1));
                    all.add((long) x.told(one, 2));
                }
            }
        }
    }
}
