import java.util.ArrayList;
import java.util.Arrays;
import java.util.List;
import java.util.function.ToIntFunction;

/**
 * The document once more, written for plainness alone and apart from the class: texts are trees of functions,
 * a state is copied whole, refusals of the reader are exceptions.
 */
final class Oracle {
    static final int NONE = -1, BAD = -2, STATE = -3, FULL = -4;
    static final long NO = -4611686018427387904L;

    static final class Person {
        int kind, number, duty, tired, missed, late;
        int[] fond = {1, 1, 1, 1, 1};

        Person twin() {
            Person p = new Person();
            p.kind = kind;
            p.number = number;
            p.duty = duty;
            p.tired = tired;
            p.missed = missed;
            p.late = late;
            p.fond = fond.clone();
            return p;
        }
    }

    static final class World {
        int day, rule;
        List<Person> all = new ArrayList<>();

        World twin() {
            World w = new World();
            w.day = day;
            w.rule = rule;
            for (Person p : all) {
                w.all.add(p.twin());
            }
            return w;
        }

        int sumLate() {
            return all.stream().mapToInt(p -> p.late).sum();
        }

        int sumMissed() {
            return all.stream().mapToInt(p -> p.missed).sum();
        }
    }

    /** What a name can ask for. */
    record Asked(int fond, int duty, int number, int day, int tired, int missed) { }

    record Text(ToIntFunction<Asked> sets, ToIntFunction<Asked> tires, ToIntFunction<Asked> grows) { }

    World world = new World();
    World image;
    StringBuilder tape = new StringBuilder();
    List<Text> texts = new ArrayList<>();
    int[][] sheets = new int[4][];
    int[] sorts = {-1, -1, -1, -1};

    Oracle() {
        texts.add(new OracleReader("sets 6 + fond ; tires 3 ; grows 0 ;").read());
    }

    // ---- the terms

    static int clamp(int v, int lo, int hi) {
        return v < lo ? lo : v > hi ? hi : v;
    }

    Asked asked(World w, int one, int other) {
        Person a = w.all.get(one);
        Person b = w.all.get(other);
        return new Asked(one == other ? 0 : a.fond[other], b.duty, a.number, w.day, a.tired, b.missed);
    }

    int sets(World w, int one, int other) {
        int v = clamp(texts.get(w.rule).sets().applyAsInt(asked(w, one, other)), 0, 99);
        return clamp(setsOf(w, one, other, w.all.get(one).kind, v), 0, 23);
    }

    int setsOf(World w, int one, int other, int kind, int v) {
        if (kind == 0) return v;
        if (kind == 1) return setsOf(w, one, other, 0, v) + 2;
        if (kind == 2) return setsOf(w, one, other, 0, v) / 2;
        if (kind == 3) return Math.max(9, setsOf(w, one, other, 1, v));
        if (kind == 4) return w.day % 3 == 0 ? w.all.get(other).duty : setsOf(w, one, other, 2, v);
        return w.all.get(one).number;
    }

    int tires(World w, int one, int hour) {
        int v = clamp(texts.get(w.rule).tires().applyAsInt(asked(w, one, one)), -99, 99);
        return clamp(tiresOf(w.all.get(one), hour, w.all.get(one).kind, v), -99, 99);
    }

    int tiresOf(Person p, int hour, int kind, int v) {
        if (kind == 0) return v;
        if (kind == 1) return tiresOf(p, hour, 0, v) / 2;
        if (kind == 2) return hour < 6 ? tiresOf(p, hour, 0, v) + p.number : tiresOf(p, hour, 0, v);
        if (kind == 3) return 0;
        if (kind == 4) return 2 * tiresOf(p, hour, 2, v);
        return p.tired < 50 ? tiresOf(p, hour, 0, v) : 0;
    }

    int grows(World w, int one, int other, boolean late) {
        int v = clamp(texts.get(w.rule).grows().applyAsInt(asked(w, one, other)), -99, 99);
        return growsOf(w, late, w.all.get(one).kind, v);
    }

    int growsOf(World w, boolean late, int kind, int v) {
        if (kind == 0) return v;
        if (kind == 1) return late ? 0 : growsOf(w, late, 0, v);
        if (kind == 2) return 0 - growsOf(w, late, 0, v);
        if (kind == 3) return growsOf(w, late, 1, v) + 1;
        if (kind == 4) return w.day % 2 != 0 ? growsOf(w, late, 2, v) : 0;
        return 0;
    }

    int setter(World w, int one) {
        int best = NONE;
        for (int i = w.all.size() - 1; i >= 0; i--) {
            if (i == one || w.all.get(i).fond[one] == 0) continue;
            if (best == NONE || w.all.get(i).fond[one] >= w.all.get(best).fond[one]) best = i;
        }
        return best;
    }

    int wakes(World w, int one) {
        int s = setter(w, one);
        return s == NONE ? NONE : sets(w, s, one);
    }

    int lateBy(World w, int one) {
        int hour = wakes(w, one);
        return hour == NONE || hour < w.all.get(one).duty ? 0 : hour - w.all.get(one).duty;
    }

    World dayAfter(World was) {
        World w = was.twin();
        for (int i = 0; i < was.all.size(); i++) {
            Person p = w.all.get(i);
            int s = setter(was, i);
            if (s == NONE) {
                p.tired = clamp(p.tired - 10, 0, 99);
                p.missed = clamp(p.missed + 1, 0, 99);
            } else {
                int late = lateBy(was, i);
                p.tired = clamp(p.tired + tires(was, i, wakes(was, i)), 0, 99);
                p.late = clamp(p.late + late, 0, 9999);
                Person by = w.all.get(s);
                by.fond[i] = clamp(by.fond[i] + grows(was, s, i, late > 0), 0, 9);
            }
        }
        w.day++;
        return w;
    }

    World daysAfter(World was, int n) {
        World w = was;
        for (int i = 0; i < n; i++) w = dayAfter(w);
        return w;
    }

    boolean has(int one) {
        return one >= 0 && one < world.all.size();
    }

    boolean within(int v, int lo, int hi) {
        return v >= lo && v <= hi;
    }

    // ---- the calls

    int set(int what, int of, int v) {
        int[] most = {999, 9, 23, 99, 99, 9999, 9};
        if (!within(what, 0, 6) || !within(v, 0, most[what])) return BAD;
        int was = told(of, what);
        if (was == -1000) return BAD;
        if (what == 0) world.day = v;
        else if (what == 6) world.all.get(of / 10).fond[of % 10] = v;
        else {
            Person p = world.all.get(of);
            if (what == 1) p.number = v;
            if (what == 2) p.duty = v;
            if (what == 3) p.tired = v;
            if (what == 4) p.missed = v;
            if (what == 5) p.late = v;
        }
        return was;
    }

    int person(int kind, int number, int duty) {
        if (!within(kind, 0, 5) || !within(number, 0, 9) || !within(duty, 0, 23)) return BAD;
        if (world.all.size() == 5) return FULL;
        Person p = new Person();
        p.kind = kind;
        p.number = number;
        p.duty = duty;
        for (Person q : world.all) q.fond[world.all.size()] = 1;
        world.all.add(p);
        return world.all.size() - 1;
    }

    int told(int of, int what) {
        if (what == 0) return world.day;
        if (what == 6) {
            if (of < 0 || !has(of / 10) || !has(of % 10) || of / 10 == of % 10) return -1000;
            return world.all.get(of / 10).fond[of % 10];
        }
        if (!has(of)) return -1000;
        Person p = world.all.get(of);
        switch (what) {
            case 1: return p.number;
            case 2: return p.duty;
            case 3: return p.tired;
            case 4: return p.missed;
            case 5: return p.late;
            case 7: return p.kind;
            case 8: return setter(world, of);
            case 9: return wakes(world, of);
            case 10: return lateBy(world, of);
            case 11: {
                int bits = 0;
                for (int i = 0; i < world.all.size(); i++) if (setter(world, i) == of) bits += 1 << i;
                return bits;
            }
            default: return -1000;
        }
    }

    int asks(int one, int other, int what) {
        if (!has(one) || !has(other) || one == other || !within(what, 0, 2)) return -1000;
        return what == 0 ? sets(world, one, other) : grows(world, one, other, what == 1);
    }

    int woken(int one, int hour) {
        return has(one) && within(hour, 0, 23) ? tires(world, one, hour) : -1000;
    }

    int feed(int letter) {
        if (!within(letter, 0, 255)) return BAD;
        if (tape.length() == 160) return FULL;
        tape.append((char) letter);
        return tape.length();
    }

    int text() {
        if (texts.size() == 6) return FULL;
        String all = tape.toString();
        tape = new StringBuilder();
        try {
            texts.add(new OracleReader(all).read());
            return texts.size() - 1;
        } catch (OracleReader.Fault f) {
            return -100 - f.place;
        }
    }

    int force(int text) {
        if (!within(text, 0, texts.size() - 1)) return BAD;
        int was = world.rule;
        world.rule = text;
        return was;
    }

    int lateOnes(World w) {
        int bits = 0;
        for (int i = 0; i < w.all.size(); i++) if (lateBy(w, i) > 0) bits += 1 << i;
        return bits;
    }

    int day() {
        if (world.day == 999) return STATE;
        int bits = lateOnes(world);
        world = dayAfter(world);
        return bits;
    }

    int run(int one, int n, int what) {
        if (!has(one) || !within(n, 0, 40) || !within(what, 0, 4)) return BAD;
        World w = daysAfter(world, n);
        switch (what) {
            case 0: return wakes(w, one);
            case 1: return w.all.get(one).tired;
            case 2: return w.all.get(one).late;
            case 3: return Integer.bitCount(lateOnes(w));
            default: return w.sumMissed();
        }
    }

    int round(int one) {
        if (!has(one)) return BAD;
        List<Integer> been = new ArrayList<>(List.of(one));
        while (true) {
            int next = setter(world, been.get(been.size() - 1));
            if (next == NONE) return NONE;
            if (been.contains(next)) return been.size();
            been.add(next);
        }
    }

    int others(int what) {
        if (!within(what, 0, 1)) return BAD;
        int n = world.all.size();
        if (n < 2) return NONE;
        int best = -1, least = 0;
        int top = (int) Math.pow(10, n);
        next:
        for (int way = 0; way < top; way++) {
            String digits = String.format("%0" + n + "d", way);
            int late = 0, used = 0;
            for (int i = 0; i < n; i++) {
                int whose = digits.charAt(i) - '1';
                if (whose < 0 || whose >= n || whose == i || (used & 1 << whose) != 0) continue next;
                used |= 1 << whose;
                late += Math.max(0, sets(world, i, whose) - world.all.get(whose).duty);
            }
            if (best < 0 || late < least) {
                best = way;
                least = late;
            }
        }
        return what == 0 ? best : least;
    }

    int duty(int one, int n, int what) {
        if (!has(one) || !within(n, 0, 20) || !within(what, 0, 1)) return BAD;
        int[] late = new int[24];
        for (int d = 0; d < 24; d++) {
            World w = world.twin();
            w.all.get(one).duty = d;
            late[d] = daysAfter(w, n).sumLate();
        }
        int least = Arrays.stream(late).min().getAsInt();
        if (what == 1) return least;
        int d = 0;
        while (late[d] != least) d++;
        return d;
    }

    int fonder(int one, int n, int what) {
        if (!has(one) || !within(n, 0, 20) || !within(what, 0, 1)) return BAD;
        int best = NONE, least = daysAfter(world, n).sumLate();
        for (int i = 0; i < world.all.size(); i++) {
            if (i == one) continue;
            World w = world.twin();
            w.all.get(one).fond[i] = 9;
            int late = daysAfter(w, n).sumLate();
            if (late < least) {
                best = i;
                least = late;
            }
        }
        return what == 0 ? best : least;
    }

    static long lowest(int above, int below, int part) {
        int g = java.math.BigInteger.valueOf(above).gcd(java.math.BigInteger.valueOf(below)).intValue();
        return part == 0 ? above / g : below / g;
    }

    long mean(int part) {
        if (!within(part, 0, 1) || world.all.isEmpty()) return NO;
        return lowest(world.sumLate(), world.all.size(), part);
    }

    int otherwise(World from, int[] sheet, int one) {
        World w = from;
        for (int i = 0; i < sheet.length; i++) {
            if (wakes(w, one) != sheet[i]) return i;
            w = dayAfter(w);
        }
        return NONE;
    }

    int tells(int sheet, int one, int by, int what) {
        if (!within(sheet, 0, 3) || !has(one) || !has(by) || !within(what, 0, 7)) return BAD;
        int[] row = sheets[sheet];
        if (row == null) return -11;
        if (row.length > 20) return BAD;
        if (what == 0) return otherwise(world, row, one);
        List<Integer> so = new ArrayList<>();
        int[] many = {0, 6, 10, 100, 100, 24, texts.size(), world.all.size()};
        for (int v = 0; v < many[what]; v++) {
            World w = world.twin();
            if (what == 1) w.all.get(by).kind = v;
            if (what == 2) w.all.get(by).number = v;
            if (what == 3 || what == 4) w.all.get(by).tired = v;
            if (what == 5) w.all.get(one).duty = v;
            if (what == 6) w.rule = v;
            if (otherwise(w, row, what == 7 ? v : one) == NONE) so.add(v);
        }
        if (what == 3) return so.size();
        if (what == 4) return so.isEmpty() ? NONE : so.get(0);
        return so.stream().mapToInt(v -> 1 << v).sum();
    }

    int film(int sheet, int one, int n) {
        if (!within(sheet, 0, 3) || !has(one) || !within(n, 0, 20)) return BAD;
        int[] row = new int[n];
        for (int i = 0; i < n; i++) row[i] = wakes(daysAfter(world, i), one);
        sheets[sheet] = row;
        sorts[sheet] = 0;
        return n;
    }

    int drawn(int seed, int n) {
        if (!within(n, 0, 40)) return BAD;
        World w = world.twin();
        int last = seed;
        for (int i = 0; i < n; i++) {
            last = last * 1103515245 + 12345;
            int a = (last >>> 9) % 8;
            last = last * 1103515245 + 12345;
            int b = (last >>> 9) % 8;
            if (has(a) && has(b) && a != b) w.all.get(a).fond[b] = 0;
            w = dayAfter(w);
        }
        return w.sumMissed();
    }

    long chance(int seed, int m, int k, int part) {
        if (!within(m, 1, 20) || !within(k, 0, 99) || !within(part, 0, 1)) return NO;
        int so = 0;
        for (int i = 0; i < m; i++) if (drawn(seed + i, 10) >= k) so++;
        return lowest(so, m, part);
    }

    int image() {
        image = world.twin();
        return image.all.size();
    }

    int back() {
        if (image == null) return STATE;
        world = image.twin();
        return world.all.size();
    }

    int count(int what) {
        switch (what) {
            case 0: return world.all.size();
            case 1: {
                int n = 0;
                for (int i = 0; i < world.all.size(); i++) if (setter(world, i) == NONE) n++;
                return n;
            }
            case 2: return world.day;
            case 3: return texts.size();
            case 4: return tape.length();
            case 5: return world.rule;
            default: return BAD;
        }
    }

    int sheet(int sheet, int sort, int n) {
        if (!within(sheet, 0, 3) || !within(sort, -1, 2)) return BAD;
        if (sort >= 0) {
            if (n > 40) return BAD;
            if (n < 0) return -14;
        }
        sheets[sheet] = sort < 0 ? null : new int[n];
        sorts[sheet] = sort;
        return 1;
    }

    int cell(int sheet, int i, int v) {
        if (!within(sheet, 0, 3)) return BAD;
        if (sheets[sheet] == null) return -11;
        if (!within(i, 0, sheets[sheet].length - 1)) return -12;
        sheets[sheet][i] = sorts[sheet] == 0 ? v << 24 >> 24 : sorts[sheet] == 1 ? v << 16 >> 16 : v;
        return 1;
    }

    int copy(int sheet, int i, int other, int j, int n) {
        if (!within(sheet, 0, 3) || !within(other, 0, 3)) return BAD;
        if (sheets[sheet] == null || sheets[other] == null) return -11;
        if (sorts[sheet] != sorts[other]) return -13;
        if (i < 0 || j < 0 || n < 0) return -12;
        if ((long) i + n > sheets[sheet].length || (long) j + n > sheets[other].length) return -12;
        int[] as = sheets[sheet].clone();
        for (int k = 0; k < n; k++) sheets[other][j + k] = as[i + k];
        return n;
    }

    int court(int sheet, int sort, int from, int n) {
        if (!within(sheet, 0, 3) || !within(sort, 0, 2) || !within(n, 0, 5)) return BAD;
        int[] row = sheets[sheet];
        if (row != null && sorts[sheet] != sort) return -13;
        if (row == null) return -11;
        int came = 0;
        for (int k = 0; k < n; k++) {
            long at = (long) from + 3L * k;
            if (at < 0 || at + 2 >= row.length) return -12;
            int a = (int) at;
            if (person(row[a], row[a + 1], row[a + 2]) >= 0) came++;
        }
        return came;
    }

    int taken(int one, int k) {
        if (!within(k, 0, 5)) return BAD;
        if (!has(one)) return -11;
        int[][] over = {{0}, {1, 0}, {2, 0}, {3, 1, 0}, {4, 2, 0}, {5, 0}};
        for (int o : over[world.all.get(one).kind]) if (o == k) return world.all.get(one).number;
        return -13;
    }
}
