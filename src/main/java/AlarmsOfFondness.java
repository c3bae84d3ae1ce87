/**
 * Alarms that are set by those who'll miss you. The promises are those of the document DOC.md;
 * the words in its capitals are the names here.
 *
 * <p>All rows are made with the object and used again: no call makes an object.
 */
public final class AlarmsOfFondness {

    public static final int NONE = -1, BAD = -2, STATE = -3, FULL = -4;
    public static final long NO = -4611686018427387904L;

    private static final int NO_SUCH = -1000, FAULT = -100;
    private static final int NOTHING = -11, OUTSIDE = -12, OTHER_SORT = -13, SIZE_BELOW_0 = -14;

    private static final int MOST_PEOPLE = 5, MOST_TEXTS = 6, MOST_BYTES = 160, MOST_OPEN = 5;
    private static final int LAST_DAY = 999, HOURS = 24;
    private static final int MOST_DAYS = 40, MOST_DAYS_COMPARED = 20, MOST_TOLD = 20, DAYS_OF_CHANCE = 10;
    private static final int MORE_THAN_ALL_LATE = 1000000;
    private static final int MOST_SEEDS = 20, MOST_MISSED = 99;
    private static final int MOST_SHEETS = 4, MOST_ITEMS = 40, ITEMS_A_PERSON = 3;

    private static final int PERSON = 0, MOTHER = 1, HUSBAND = 2, CHILD = 3, DOCTOR = 4, QUEEN = 5, KINDS = 6;
    /** Under which KIND each KIND is. */
    private static final int[] UNDER = {NONE, PERSON, PERSON, MOTHER, HUSBAND, PERSON};

    /** What set() and told() name by these numbers. */
    private static final int DAY = 0, NUMBER = 1, DUTY = 2, TIRED = 3, MISSED = 4, LATE = 5, FOND = 6, KIND = 7;
    private static final int[] HIGHEST = {LAST_DAY, 9, HOURS - 1, 99, 99, 9999, 9};
    /** What else may be otherwise in thought: THE RULE, or nothing. */
    private static final int RULE = 8, AS_IT_IS = 9;

    private static final int MISSING = -1, BYTES = 0, SHORTS = 1, INTS = 2;

    /** The three parts of a TEXT. */
    private static final int SETS = 0, TIRES = 1, GROWS = 2, PARTS = 3;
    private static final String FIRST_TEXT = "sets 6 + fond ; tires 3 ; grows 0 ;";

    private final Rules rules;
    private final Reader reader;
    private final Days days;
    private final People truth;
    private final People thought;
    private final People kept;
    private final Ways ways;
    private final Sheet[] sheets;
    private boolean hasImage;

    public AlarmsOfFondness() {
        reader = new Reader();
        rules = new Rules();
        reader.addAll(FIRST_TEXT);
        rules.take(reader);
        days = new Days(rules);
        truth = new People();
        thought = new People();
        kept = new People();
        ways = new Ways();
        sheets = new Sheet[MOST_SHEETS];
        for (int i = 0; i < MOST_SHEETS; i++) {
            sheets[i] = new Sheet();
        }
    }

    // ---- people, fondness

    public int set(int what, int of, int v) {
        if (what < DAY || what > FOND || !truth.hasPlace(what, of) || v < 0 || v > HIGHEST[what]) {
            return BAD;
        }
        int was = truth.get(what, of);
        truth.put(what, of, v);
        return was;
    }

    public int person(int kind, int number, int duty) {
        return truth.come(kind, number, duty);
    }

    public int told(int of, int what) {
        if (what >= DAY && what <= KIND) {
            return truth.hasPlace(what, of) ? truth.get(what, of) : NO_SUCH;
        }
        if (!truth.has(of)) {
            return NO_SUCH;
        }
        switch (what) {
            case 8:
                return truth.setterOf(of);
            case 9:
                return days.wakes(truth, of);
            case 10:
                return days.lateBy(truth, of);
            case 11:
                return truth.whoseClocks(of);
            default:
                return NO_SUCH;
        }
    }

    public int asks(int one, int other, int what) {
        if (!truth.hasTwo(one, other)) {
            return NO_SUCH;
        }
        switch (what) {
            case 0:
                return rules.hourSet(truth, one, other);
            case 1:
                return rules.fonderBy(truth, one, other, true);
            case 2:
                return rules.fonderBy(truth, one, other, false);
            default:
                return NO_SUCH;
        }
    }

    public int woken(int one, int hour) {
        if (!truth.has(one) || hour < 0 || hour >= HOURS) {
            return NO_SUCH;
        }
        return rules.tiredBy(truth, one, hour);
    }

    // ---- texts

    public int feed(int letter) {
        if (letter < 0 || letter > 255) {
            return BAD;
        }
        return reader.add(letter) ? reader.size() : FULL;
    }

    public int text() {
        return rules.take(reader);
    }

    public int force(int text) {
        if (text < 0 || text >= rules.many()) {
            return BAD;
        }
        int was = truth.rule();
        truth.put(RULE, NONE, text);
        return was;
    }

    // ---- days

    public int day() {
        if (truth.today() >= LAST_DAY) {
            return STATE;
        }
        days.dawn(truth);
        days.settle(truth);
        return days.whoIsLate(truth);
    }

    public int run(int one, int n, int what) {
        if (!truth.has(one) || n < 0 || n > MOST_DAYS || what < 0 || what > 4) {
            return BAD;
        }
        thought.copyFrom(truth);
        passDays(n);
        switch (what) {
            case 0:
                return days.wakes(thought, one);
            case 1:
                return thought.get(TIRED, one);
            case 2:
                return thought.get(LATE, one);
            case 3:
                days.dawn(thought);
                return Integer.bitCount(days.whoIsLate(thought));
            default:
                return thought.sum(MISSED);
        }
    }

    public int round(int one) {
        if (!truth.has(one)) {
            return BAD;
        }
        int been = 1 << one;
        int now = one;
        for (int step = 1; step <= MOST_PEOPLE; step++) {
            now = truth.setterOf(now);
            if (now == NONE) {
                return NONE;
            }
            if ((been >> now & 1) != 0) {
                return step;
            }
            been |= 1 << now;
        }
        return NONE;
    }

    // ---- what would be best

    public int others(int what) {
        if (what < 0 || what > 1) {
            return BAD;
        }
        if (truth.many() < 2) {
            return NONE;
        }
        ways.find(truth, rules);
        return what == 0 ? ways.digits() : ways.late();
    }

    public int duty(int one, int n, int what) {
        if (!truth.has(one) || n < 0 || n > MOST_DAYS_COMPARED || what < 0 || what > 1) {
            return BAD;
        }
        int best = 0;
        int least = MORE_THAN_ALL_LATE;
        for (int hour = 0; hour < HOURS; hour++) {
            int late = lateBehind(n, DUTY, one, hour);
            if (late < least) {
                least = late;
                best = hour;
            }
        }
        return what == 0 ? best : least;
    }

    public int fonder(int one, int n, int what) {
        if (!truth.has(one) || n < 0 || n > MOST_DAYS_COMPARED || what < 0 || what > 1) {
            return BAD;
        }
        int best = NONE;
        int least = lateBehind(n, AS_IT_IS, NONE, NONE);
        for (int other = 0; other < truth.many(); other++) {
            if (other != one) {
                int late = lateBehind(n, FOND, 10 * one + other, HIGHEST[FOND]);
                if (late < least) {
                    least = late;
                    best = other;
                }
            }
        }
        return what == 0 ? best : least;
    }

    public long mean(int part) {
        if (part < 0 || part > 1 || truth.many() == 0) {
            return NO;
        }
        return partOf(truth.sum(LATE), truth.many(), part);
    }

    // ---- waking that was told

    public int tells(int sheet, int one, int by, int what) {
        if (!isSheet(sheet) || !truth.has(one) || !truth.has(by) || what < 0 || what > 7) {
            return BAD;
        }
        Sheet told = sheets[sheet];
        if (told.isMissing()) {
            return NOTHING;
        }
        if (told.size() > MOST_TOLD) {
            return BAD;
        }
        switch (what) {
            case 0:
                return firstOtherwise(told, one, AS_IT_IS, NONE, NONE);
            case 1:
                return bitsThatFit(told, one, KIND, by, KINDS);
            case 2:
                return bitsThatFit(told, one, NUMBER, by, HIGHEST[NUMBER] + 1);
            case 3:
            case 4:
                return tiredThatFits(told, one, by, what == 4);
            case 5:
                return bitsThatFit(told, one, DUTY, one, HOURS);
            case 6:
                return bitsThatFit(told, one, RULE, NONE, rules.many());
            default:
                return peopleThatFit(told);
        }
    }

    public int film(int sheet, int one, int n) {
        if (!isSheet(sheet) || !truth.has(one) || n < 0 || n > MOST_TOLD) {
            return BAD;
        }
        Sheet film = sheets[sheet];
        film.become(BYTES, n);
        thought.copyFrom(truth);
        for (int i = 0; i < n; i++) {
            days.dawn(thought);
            film.put(i, days.hour(one));
            days.settle(thought);
        }
        return n;
    }

    public int drawn(int seed, int n) {
        if (n < 0 || n > MOST_DAYS) {
            return BAD;
        }
        return missedWhenDrawn(seed, n);
    }

    public long chance(int seed, int m, int k, int part) {
        if (m < 1 || m > MOST_SEEDS || k < 0 || k > MOST_MISSED || part < 0 || part > 1) {
            return NO;
        }
        int enough = 0;
        for (int i = 0; i < m; i++) {
            if (missedWhenDrawn(seed + i, DAYS_OF_CHANCE) >= k) {
                enough++;
            }
        }
        return partOf(enough, m, part);
    }

    public int image() {
        kept.copyFrom(truth);
        hasImage = true;
        return kept.many();
    }

    public int back() {
        if (!hasImage) {
            return STATE;
        }
        truth.copyFrom(kept);
        return truth.many();
    }

    public int count(int what) {
        switch (what) {
            case 0:
                return truth.many();
            case 1:
                return truth.manyWithoutSetter();
            case 2:
                return truth.today();
            case 3:
                return rules.many();
            case 4:
                return reader.size();
            case 5:
                return truth.rule();
            default:
                return BAD;
        }
    }

    // ---- the host

    public int sheet(int sheet, int sort, int n) {
        if (!isSheet(sheet) || sort != MISSING && !isSort(sort)) {
            return BAD;
        }
        if (sort != MISSING && n > MOST_ITEMS) {
            return BAD;
        }
        if (sort != MISSING && n < 0) {
            return SIZE_BELOW_0;
        }
        sheets[sheet].become(sort, sort == MISSING ? 0 : n);
        return 1;
    }

    public int cell(int sheet, int i, int v) {
        if (!isSheet(sheet)) {
            return BAD;
        }
        Sheet row = sheets[sheet];
        if (row.isMissing()) {
            return NOTHING;
        }
        if (!row.hasRange(i, 1)) {
            return OUTSIDE;
        }
        row.put(i, v);
        return 1;
    }

    public int copy(int sheet, int i, int other, int j, int n) {
        if (!isSheet(sheet) || !isSheet(other)) {
            return BAD;
        }
        Sheet from = sheets[sheet];
        Sheet to = sheets[other];
        if (from.isMissing() || to.isMissing()) {
            return NOTHING;
        }
        if (from.sort() != to.sort()) {
            return OTHER_SORT;
        }
        if (!from.hasRange(i, n) || !to.hasRange(j, n)) {
            return OUTSIDE;
        }
        to.takeFrom(from, i, j, n);
        return n;
    }

    public int court(int sheet, int sort, int from, int n) {
        if (!isSheet(sheet) || !isSort(sort) || n < 0 || n > MOST_PEOPLE) {
            return BAD;
        }
        Sheet row = sheets[sheet];
        if (row.isMissing()) {
            return NOTHING;
        }
        if (row.sort() != sort) {
            return OTHER_SORT;
        }
        int came = 0;
        int at = from;
        for (int k = 0; k < n; k++) {
            if (!row.hasRange(at, ITEMS_A_PERSON)) {
                return OUTSIDE;
            }
            if (truth.come(row.get(at), row.get(at + 1), row.get(at + 2)) >= 0) {
                came++;
            }
            at += ITEMS_A_PERSON;
        }
        return came;
    }

    public int taken(int one, int k) {
        if (k < 0 || k >= KINDS) {
            return BAD;
        }
        if (!truth.has(one)) {
            return NOTHING;
        }
        return isUnder(truth.get(KIND, one), k) ? truth.get(NUMBER, one) : OTHER_SORT;
    }

    // ---- what the calls share

    private static boolean isSheet(int sheet) {
        return sheet >= 0 && sheet < MOST_SHEETS;
    }

    private static boolean isSort(int sort) {
        return sort >= BYTES && sort <= INTS;
    }

    private static boolean isUnder(int kind, int k) {
        int now = kind;
        for (int step = 0; step < KINDS && now >= 0 && now < KINDS; step++) {
            if (now == k) {
                return true;
            }
            now = UNDER[now];
        }
        return false;
    }

    /** A part of a quotient in lowest terms; what is below the line is small, so all divisors are tried. */
    private static long partOf(int above, int below, int part) {
        for (int divisor = below; divisor > 1; divisor--) {
            if (above % divisor == 0 && below % divisor == 0) {
                return part == 0 ? above / divisor : below / divisor;
            }
        }
        return part == 0 ? above : below;
    }

    private void passDays(int n) {
        for (int i = 0; i < n; i++) {
            days.dawn(thought);
            days.settle(thought);
        }
    }

    /** LATE of all behind n DAYS, were one thing otherwise now. */
    private int lateBehind(int n, int what, int of, int v) {
        thought.copyFrom(truth);
        thought.put(what, of, v);
        passDays(n);
        return thought.sum(LATE);
    }

    /** Which item of a SHEET is the first that isn't so, were one thing otherwise now. */
    private int firstOtherwise(Sheet told, int one, int what, int of, int v) {
        thought.copyFrom(truth);
        thought.put(what, of, v);
        for (int i = 0; i < told.size(); i++) {
            days.dawn(thought);
            if (days.hour(one) != told.get(i)) {
                return i;
            }
            days.settle(thought);
        }
        return NONE;
    }

    private int bitsThatFit(Sheet told, int one, int what, int of, int many) {
        int bits = 0;
        for (int v = 0; v < many; v++) {
            if (firstOtherwise(told, one, what, of, v) == NONE) {
                bits |= 1 << v;
            }
        }
        return bits;
    }

    private int tiredThatFits(Sheet told, int one, int by, boolean leastAlone) {
        // where no hour can depend on it, one of all stands for all
        int alike = rules.mindsTired(truth) ? 1 : HIGHEST[TIRED] + 1;
        int many = 0;
        for (int v = 0; v <= HIGHEST[TIRED]; v += alike) {
            if (firstOtherwise(told, one, TIRED, by, v) == NONE) {
                if (leastAlone) {
                    return v;
                }
                many += alike;
            }
        }
        return leastAlone ? NONE : many;
    }

    private int peopleThatFit(Sheet told) {
        int bits = 0;
        for (int one = 0; one < truth.many(); one++) {
            if (firstOtherwise(told, one, AS_IT_IS, NONE, NONE) == NONE) {
                bits |= 1 << one;
            }
        }
        return bits;
    }

    private int missedWhenDrawn(int seed, int n) {
        thought.copyFrom(truth);
        int last = seed;
        for (int i = 0; i < n; i++) {
            int z = last * 1103515245 + 12345;
            int y = z * 1103515245 + 12345;
            last = y;
            thought.quarrel((z >>> 9) % 8, (y >>> 9) % 8);
            days.dawn(thought);
            days.settle(thought);
        }
        return thought.sum(MISSED);
    }

    private static int bound(int v, int least, int most) {
        return Math.max(least, Math.min(most, v));
    }

    /** All that days change, of everybody: in truth, in thought, or in THE IMAGE. */
    private static final class People {
        private final int[] kind = new int[MOST_PEOPLE];
        private final int[] number = new int[MOST_PEOPLE];
        private final int[] duty = new int[MOST_PEOPLE];
        private final int[] tired = new int[MOST_PEOPLE];
        private final int[] missed = new int[MOST_PEOPLE];
        private final int[] late = new int[MOST_PEOPLE];
        /** Of each one a row: how FOND of each; 0 of oneself, always. */
        private final int[] fond = new int[MOST_PEOPLE * MOST_PEOPLE];
        private int many;
        private int day;
        private int rule;

        void copyFrom(People other) {
            System.arraycopy(other.kind, 0, kind, 0, MOST_PEOPLE);
            System.arraycopy(other.number, 0, number, 0, MOST_PEOPLE);
            System.arraycopy(other.duty, 0, duty, 0, MOST_PEOPLE);
            System.arraycopy(other.tired, 0, tired, 0, MOST_PEOPLE);
            System.arraycopy(other.missed, 0, missed, 0, MOST_PEOPLE);
            System.arraycopy(other.late, 0, late, 0, MOST_PEOPLE);
            System.arraycopy(other.fond, 0, fond, 0, MOST_PEOPLE * MOST_PEOPLE);
            many = other.many;
            day = other.day;
            rule = other.rule;
        }

        int many() {
            return many;
        }

        int today() {
            return day;
        }

        int rule() {
            return rule;
        }

        boolean has(int one) {
            return one >= 0 && one < many;
        }

        boolean hasTwo(int one, int other) {
            return has(one) && has(other) && one != other;
        }

        boolean hasPlace(int what, int of) {
            if (what == DAY) {
                return true;
            }
            if (what == FOND) {
                return of >= 0 && of / 10 < many && of % 10 < many && of / 10 != of % 10;
            }
            return has(of);
        }

        int get(int what, int of) {
            if (what == DAY) {
                return day;
            }
            return hasPlace(what, of) ? rowOf(what)[placeIn(what, of)] : NONE;
        }

        void put(int what, int of, int v) {
            if (what == DAY) {
                day = v;
            } else if (what == RULE) {
                rule = v;
            } else if (what != AS_IT_IS && hasPlace(what, of)) {
                rowOf(what)[placeIn(what, of)] = v;
            }
        }

        private static int placeIn(int what, int of) {
            return what == FOND ? of / 10 * MOST_PEOPLE + of % 10 : of;
        }

        private int[] rowOf(int what) {
            switch (what) {
                case NUMBER:
                    return number;
                case DUTY:
                    return duty;
                case TIRED:
                    return tired;
                case MISSED:
                    return missed;
                case LATE:
                    return late;
                case FOND:
                    return fond;
                default:
                    return kind;
            }
        }

        int come(int itsKind, int itsNumber, int itsDuty) {
            if (itsKind < 0 || itsKind >= KINDS || itsNumber < 0 || itsNumber > HIGHEST[NUMBER]
                    || itsDuty < 0 || itsDuty >= HOURS) {
                return BAD;
            }
            if (many >= MOST_PEOPLE) {
                return FULL;
            }
            int one = many;
            many++;
            kind[one] = itsKind;
            number[one] = itsNumber;
            duty[one] = itsDuty;
            tired[one] = 0;
            missed[one] = 0;
            late[one] = 0;
            for (int other = 0; other < one; other++) {
                fond[one * MOST_PEOPLE + other] = 1;
                fond[other * MOST_PEOPLE + one] = 1;
            }
            return one;
        }

        void quarrel(int one, int other) {
            if (hasTwo(one, other)) {
                fond[one * MOST_PEOPLE + other] = 0;
            }
        }

        int setterOf(int one) {
            if (!has(one)) {
                return NONE;
            }
            int setter = NONE;
            int most = 0;
            for (int other = 0; other < many; other++) {
                int fondness = fond[other * MOST_PEOPLE + one];
                if (fondness > most) {
                    most = fondness;
                    setter = other;
                }
            }
            return setter;
        }

        int whoseClocks(int one) {
            int bits = 0;
            for (int other = 0; other < many; other++) {
                if (setterOf(other) == one) {
                    bits |= 1 << other;
                }
            }
            return bits;
        }

        int manyWithoutSetter() {
            return Integer.bitCount(whoseClocks(NONE));
        }

        int sum(int what) {
            int sum = 0;
            for (int one = 0; one < many; one++) {
                sum += get(what, one);
            }
            return sum;
        }

        /** What the NAMES of a TEXT tell of one and another one; of TIRES, that other one is oneself. */
        void tellNames(int one, int other, int[] names) {
            if (has(one) && has(other) && names.length >= Text.NAMES) {
                names[Text.NAME_FOND] = fond[one * MOST_PEOPLE + other];
                names[Text.NAME_DUTY] = duty[other];
                names[Text.NAME_NUMBER] = number[one];
                names[Text.NAME_DAY] = day;
                names[Text.NAME_TIRED] = tired[one];
                names[Text.NAME_MISSED] = missed[other];
            }
        }

        void wake(int one, int tires, int lateBy) {
            if (has(one)) {
                tired[one] = bound(tired[one] + tires, 0, HIGHEST[TIRED]);
                late[one] = Math.min(late[one] + lateBy, HIGHEST[LATE]);
            }
        }

        void growFonder(int one, int other, int by) {
            if (hasTwo(one, other)) {
                int place = one * MOST_PEOPLE + other;
                fond[place] = bound(fond[place] + by, 0, HIGHEST[FOND]);
            }
        }

        void miss(int one) {
            if (has(one)) {
                tired[one] = Math.max(tired[one] - 10, 0);
                missed[one] = Math.min(missed[one] + 1, HIGHEST[MISSED]);
            }
        }

        void endDay() {
            day++;
        }
    }

    /** A DAY: what is told ahead of it, and what becomes of all by it. */
    private static final class Days {
        private final Rules rules;
        private final int[] setter = new int[MOST_PEOPLE];
        private final int[] hour = new int[MOST_PEOPLE];
        private final int[] lateBy = new int[MOST_PEOPLE];
        private final int[] tires = new int[MOST_PEOPLE];
        private final int[] grows = new int[MOST_PEOPLE];

        Days(Rules rules) {
            this.rules = rules;
        }

        int wakes(People people, int one) {
            int by = people.setterOf(one);
            return by == NONE ? NONE : rules.hourSet(people, by, one);
        }

        /** Who isn't woken (NONE, below every hour) is late by 0, too. */
        int lateBy(People people, int one) {
            return Math.max(0, wakes(people, one) - people.get(DUTY, one));
        }

        /** On the DAY that was told last. */
        int hour(int one) {
            return one >= 0 && one < MOST_PEOPLE ? hour[one] : NONE;
        }

        /** Tells of all ahead, so that nothing of this DAY changes what else is told of it. */
        void dawn(People people) {
            for (int one = 0; one < people.many(); one++) {
                int by = people.setterOf(one);
                setter[one] = by;
                if (by == NONE) {
                    hour[one] = NONE;
                    lateBy[one] = 0;
                } else {
                    hour[one] = rules.hourSet(people, by, one);
                    lateBy[one] = Math.max(0, hour[one] - people.get(DUTY, one));
                    tires[one] = rules.tiredBy(people, one, hour[one]);
                    grows[one] = rules.fonderBy(people, by, one, lateBy[one] > 0);
                }
            }
        }

        void settle(People people) {
            for (int one = 0; one < people.many(); one++) {
                if (setter[one] == NONE) {
                    people.miss(one);
                } else {
                    people.wake(one, tires[one], lateBy[one]);
                    people.growFonder(setter[one], one, grows[one]);
                }
            }
            people.endDay();
        }

        /** On the DAY that was told last (bits). */
        int whoIsLate(People people) {
            int bits = 0;
            for (int one = 0; one < people.many(); one++) {
                if (lateBy[one] > 0) {
                    bits |= 1 << one;
                }
            }
            return bits;
        }
    }

    /** OTHERS: all ways in which each one sets just one other one's clock. */
    private static final class Ways {
        private final int[] lateBy = new int[MOST_PEOPLE * MOST_PEOPLE];
        private int many;
        private int least;
        private int best;

        void find(People people, Rules rules) {
            many = people.many();
            for (int one = 0; one < many; one++) {
                for (int other = 0; other < many; other++) {
                    if (one != other) {
                        lateBy[one * MOST_PEOPLE + other] =
                                Math.max(0, rules.hourSet(people, one, other) - people.get(DUTY, other));
                    }
                }
            }
            least = MORE_THAN_ALL_LATE;
            best = NONE;
            goOn(this, 0, 0, 0, 0);
        }

        int digits() {
            return best;
        }

        int late() {
            return least;
        }

        /** Ways come in the order of their digits, so the first of like ones is kept. */
        private static void goOn(Ways ways, int one, int used, int digits, int late) {
            if (one >= ways.many || one >= MOST_PEOPLE) {
                if (late < ways.least) {
                    ways.least = late;
                    ways.best = digits;
                }
                return;
            }
            for (int other = 0; other < ways.many; other++) {
                if (other != one && (used >> other & 1) == 0) {
                    goOn(ways, one + 1, used | 1 << other, digits * 10 + other + 1,
                            late + ways.lateBy[one * MOST_PEOPLE + other]);
                }
            }
        }
    }

    /** The TEXTS, and what each KIND makes of what THE RULE tells. */
    private static final class Rules {
        private final Text[] texts = new Text[MOST_TEXTS];
        private final int[] names = new int[Text.NAMES];
        private final int[] stack = new int[Text.MOST_WAITING];
        private int many;

        Rules() {
            for (int i = 0; i < MOST_TEXTS; i++) {
                texts[i] = new Text();
            }
        }

        int many() {
            return many;
        }

        int take(Reader reader) {
            if (many >= MOST_TEXTS) {
                return FULL;
            }
            int fault = reader.read(texts[many]);
            reader.clear();
            if (fault != NONE) {
                return FAULT - fault;
            }
            int number = many;
            many++;
            return number;
        }

        /** Whether an hour can depend on how TIRED one is: what TIRES tells changes no hour by itself. */
        boolean mindsTired(People people) {
            int rule = people.rule();
            return rule >= 0 && rule < many && (texts[rule].hasTired(SETS) || texts[rule].hasTired(GROWS));
        }

        private int tell(int part, People people, int one, int other) {
            int rule = people.rule();
            if (rule < 0 || rule >= many) {
                return 0;
            }
            people.tellNames(one, other, names);
            return bound(texts[rule].value(part, names, stack), part == SETS ? 0 : -99, 99);
        }

        int hourSet(People people, int one, int other) {
            int v = tell(SETS, people, one, other);
            int hour = v;
            switch (people.get(KIND, one)) {
                case MOTHER:
                    hour = v + 2;
                    break;
                case HUSBAND:
                    hour = v / 2;
                    break;
                case CHILD:
                    hour = Math.max(9, v + 2);
                    break;
                case DOCTOR:
                    hour = people.today() % 3 == 0 ? people.get(DUTY, other) : v / 2;
                    break;
                case QUEEN:
                    hour = people.get(NUMBER, one);
                    break;
                default:
                    break;
            }
            return bound(hour, 0, HOURS - 1);
        }

        int tiredBy(People people, int one, int hour) {
            int v = tell(TIRES, people, one, one);
            int husbands = hour < 6 ? v + people.get(NUMBER, one) : v;
            int tires = v;
            switch (people.get(KIND, one)) {
                case MOTHER:
                    tires = v / 2;
                    break;
                case HUSBAND:
                    tires = husbands;
                    break;
                case CHILD:
                    tires = 0;
                    break;
                case DOCTOR:
                    tires = 2 * husbands;
                    break;
                case QUEEN:
                    tires = people.get(TIRED, one) < 50 ? v : 0;
                    break;
                default:
                    break;
            }
            return bound(tires, -99, 99);
        }

        /** No bound is laid here: a CHILD's may be 100. */
        int fonderBy(People people, int one, int other, boolean late) {
            int v = tell(GROWS, people, one, other);
            int mothers = late ? 0 : v;
            switch (people.get(KIND, one)) {
                case MOTHER:
                    return mothers;
                case HUSBAND:
                    return -v;
                case CHILD:
                    return mothers + 1;
                case DOCTOR:
                    return people.today() % 2 == 1 ? -v : 0;
                case QUEEN:
                    return 0;
                default:
                    return v;
            }
        }
    }

    /**
     * A TEXT that was read: of each part a row of numbers (0 and above) and of steps (below 0: ~ of what
     * TOKEN they come from), each step behind what it is laid on.
     */
    private static final class Text {
        /** NAMES and KEYS, by their places in the Reader's WORDS. */
        static final int NAME_FOND = 0, NAME_DUTY = 1, NAME_NUMBER = 2, NAME_DAY = 3, NAME_TIRED = 4,
                NAME_MISSED = 5, NAMES = 6;
        static final int KEY_SETS = 6, OR = 9, AND = 10, NOT = 11, WORDS = 12;
        /** A - ahead of a ONE; the - between TERMS is its own byte, as all SIGNS are. */
        static final int NEGATE = 20;
        /** One number for each of or, and, <, +, * at each level, and the one that comes next. */
        static final int MOST_WAITING = 6 * (MOST_OPEN + 1);

        private final int[] code = new int[MOST_BYTES];
        private final int[] ends = new int[PARTS];
        private int size;

        void clear() {
            size = 0;
        }

        void addNumber(int v) {
            if (size < MOST_BYTES) {
                code[size] = v;
                size++;
            }
        }

        void addStep(int token) {
            addNumber(~token);
        }

        void endPart(int part) {
            if (part >= 0 && part < PARTS) {
                ends[part] = size;
            }
        }

        boolean hasTired(int part) {
            for (int i = begin(part); i < end(part); i++) {
                if (code[i] == ~NAME_TIRED) {
                    return true;
                }
            }
            return false;
        }

        private int begin(int part) {
            return part > 0 && part < PARTS ? ends[part - 1] : 0;
        }

        private int end(int part) {
            return part >= 0 && part < PARTS ? ends[part] : 0;
        }

        int value(int part, int[] names, int[] stack) {
            int top = 0;
            int end = end(part);
            for (int i = begin(part); i < end; i++) {
                int c = code[i];
                if (c >= -NAMES) {
                    if (top < stack.length) {
                        stack[top] = c >= 0 ? c : names[~c];
                        top++;
                    }
                } else if (~c == NOT || ~c == NEGATE) {
                    if (top > 0) {
                        stack[top - 1] = ~c == NEGATE ? -stack[top - 1] : stack[top - 1] == 0 ? 1 : 0;
                    }
                } else if (top > 1) {
                    top--;
                    stack[top - 1] = join(~c, stack[top - 1], stack[top]);
                }
            }
            return top > 0 ? stack[top - 1] : 0;
        }

        private static int join(int token, int a, int b) {
            switch (token) {
                case OR:
                    return a != 0 || b != 0 ? 1 : 0;
                case AND:
                    return a != 0 && b != 0 ? 1 : 0;
                case '<':
                    return a < b ? 1 : 0;
                case '=':
                    return a == b ? 1 : 0;
                case '+':
                    return a + b;
                case '-':
                    return a - b;
                default:
                    return a * b;
            }
        }
    }

    /** THE TAPE, and how a TEXT is read from it. */
    private static final class Reader {
        private static final String WORDS =
                "fond   duty   number day    tired  missed sets   tires  grows  or     and    not    ";
        private static final int WORD_WIDTH = 7, MOST_DIGITS = 4;
        /** TOKENS are told apart by their word's place in WORDS, a sign's own byte, or one of these. */
        private static final int A_NUMBER = 300, THE_END = 301, NO_TOKEN = 302;

        private final int[] tape = new int[MOST_BYTES];
        private int size;
        private final int[] token = new int[MOST_BYTES + 1];
        private final int[] place = new int[MOST_BYTES + 1];
        private final int[] number = new int[MOST_BYTES + 1];
        private int tokens;
        private int at;
        private Text into;

        int size() {
            return size;
        }

        void clear() {
            size = 0;
        }

        boolean add(int letter) {
            if (size >= MOST_BYTES) {
                return false;
            }
            tape[size] = letter;
            size++;
            return true;
        }

        void addAll(String text) {
            for (int i = 0; i < text.length(); i++) {
                add(text.charAt(i));
            }
        }

        /** The place of the FAULT, or NONE. */
        int read(Text text) {
            split();
            at = 0;
            into = text;
            text.clear();
            for (int part = 0; part < PARTS; part++) {
                if (!readPart(part)) {
                    return faultPlace();
                }
            }
            return now() == THE_END ? NONE : faultPlace();
        }

        private int faultPlace() {
            return at < tokens ? place[at] : size;
        }

        // ---- bytes to TOKENS

        private void split() {
            tokens = 0;
            int next = 0;
            for (int i = 0; i < size; i++) {
                if (i >= next && tape[i] != ' ' && tape[i] != '\n') {
                    next = splitOff(i);
                }
            }
            addToken(THE_END, size, 0);
        }

        /** Where the TOKEN that begins here ends. */
        private int splitOff(int from) {
            int first = tape[from];
            if (isLetter(first)) {
                int end = from + 1;
                while (end < size && isLetter(tape[end])) {
                    end++;
                }
                addToken(wordAt(from, end), from, 0);
                return end;
            }
            if (isDigit(first)) {
                int end = from + 1;
                while (end < size && isDigit(tape[end])) {
                    end++;
                }
                addNumber(from, end);
                return end;
            }
            addToken(isSign(first) ? first : NO_TOKEN, from, 0);
            return from + 1;
        }

        private void addToken(int which, int from, int v) {
            if (tokens <= MOST_BYTES) {
                token[tokens] = which;
                place[tokens] = from;
                number[tokens] = v;
                tokens++;
            }
        }

        private void addNumber(int from, int end) {
            if (end - from > MOST_DIGITS) {
                addToken(NO_TOKEN, from, 0);
                return;
            }
            int v = 0;
            for (int i = from; i < end; i++) {
                v = v * 10 + tape[i] - '0';
            }
            addToken(A_NUMBER, from, v);
        }

        private int wordAt(int from, int end) {
            for (int word = 0; word < Text.WORDS; word++) {
                if (end - from < WORD_WIDTH && spells(word, from, end)) {
                    return word;
                }
            }
            return NO_TOKEN;
        }

        private boolean spells(int word, int from, int end) {
            for (int i = 0; i < WORD_WIDTH; i++) {
                int letter = from + i < end ? tape[from + i] : ' ';
                if (letter != WORDS.charAt(word * WORD_WIDTH + i)) {
                    return false;
                }
            }
            return true;
        }

        private static boolean isLetter(int b) {
            return b >= 'a' && b <= 'z';
        }

        private static boolean isDigit(int b) {
            return b >= '0' && b <= '9';
        }

        private static boolean isSign(int b) {
            return b == '(' || b == ')' || b == ';' || b == '+' || b == '-' || b == '*' || b == '<' || b == '=';
        }

        // ---- TOKENS to a TEXT: each answers whether it could be read; if not, the FAULT is at the TOKEN now

        private int now() {
            return at < tokens ? token[at] : THE_END;
        }

        private boolean pass(int which) {
            if (now() != which) {
                return false;
            }
            at++;
            return true;
        }

        private boolean readPart(int part) {
            boolean read = pass(Text.KEY_SETS + part) && readE(0) && pass(';');
            into.endPart(part);
            return read;
        }

        private boolean readE(int open) {
            if (!readAnd(open)) {
                return false;
            }
            for (int left = tokens; left > 0 && pass(Text.OR); left--) {
                if (!readAnd(open)) {
                    return false;
                }
                into.addStep(Text.OR);
            }
            return true;
        }

        private boolean readAnd(int open) {
            if (!readNot(open)) {
                return false;
            }
            for (int left = tokens; left > 0 && pass(Text.AND); left--) {
                if (!readNot(open)) {
                    return false;
                }
                into.addStep(Text.AND);
            }
            return true;
        }

        private boolean readNot(int open) {
            if (now() == Text.NOT) {
                if (open >= MOST_OPEN) {
                    return false;
                }
                at++;
                boolean read = readNot(open + 1);
                into.addStep(Text.NOT);
                return read;
            }
            if (!readSum(open)) {
                return false;
            }
            int which = now();
            if (which == '<' || which == '=') {
                at++;
                boolean read = readSum(open);
                into.addStep(which);
                return read;
            }
            return true;
        }

        private boolean readSum(int open) {
            if (!readTerm(open)) {
                return false;
            }
            for (int left = tokens; left > 0 && (now() == '+' || now() == '-'); left--) {
                int which = now();
                at++;
                if (!readTerm(open)) {
                    return false;
                }
                into.addStep(which);
            }
            return true;
        }

        private boolean readTerm(int open) {
            if (!readOne(open)) {
                return false;
            }
            for (int left = tokens; left > 0 && pass('*'); left--) {
                if (!readOne(open)) {
                    return false;
                }
                into.addStep('*');
            }
            return true;
        }

        private boolean readOne(int open) {
            int which = now();
            if (which == A_NUMBER && at < tokens) {
                into.addNumber(number[at]);
                at++;
                return true;
            }
            if (which >= 0 && which < Text.NAMES) {
                into.addStep(which);
                at++;
                return true;
            }
            if (which != '(' && which != '-' || open >= MOST_OPEN) {
                return false;
            }
            at++;
            if (which == '(') {
                return readE(open + 1) && pass(')');
            }
            boolean read = readOne(open + 1);
            into.addStep(Text.NEGATE);
            return read;
        }
    }

    /** A row of numbers, or missing; of the narrow sorts just what they can hold is kept. */
    private static final class Sheet {
        private final int[] items = new int[MOST_ITEMS];
        private int sort = MISSING;
        private int size;

        void become(int newSort, int newSize) {
            sort = newSort;
            size = bound(newSize, 0, MOST_ITEMS);
            for (int i = 0; i < size; i++) {
                items[i] = 0;
            }
        }

        boolean isMissing() {
            return sort == MISSING;
        }

        int sort() {
            return sort;
        }

        int size() {
            return size;
        }

        /** Written so that no sum of the caller's numbers can wrap. */
        boolean hasRange(int from, int n) {
            return from >= 0 && n >= 0 && from <= size && n <= size - from;
        }

        int get(int i) {
            return i >= 0 && i < size ? items[i] : 0;
        }

        void put(int i, int v) {
            if (i >= 0 && i < size) {
                items[i] = sort == BYTES ? (byte) v : sort == SHORTS ? (short) v : v;
            }
        }

        void takeFrom(Sheet other, int from, int to, int n) {
            if (other.hasRange(from, n) && hasRange(to, n)) {
                System.arraycopy(other.items, from, items, to, n);
            }
        }
    }
}
