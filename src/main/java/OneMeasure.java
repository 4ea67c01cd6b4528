import java.util.Arrays;

/**
 * One measure for all: districts with their own ells and bushels, heaped or struck, a new unit from
 * the earth by angles and yards, old words for new sizes.
 *
 * The public methods test their arguments and pass them on; each class inside keeps one part of the
 * document. All rows are made once, so that no call makes an object.
 */
public final class OneMeasure {
    public static final int BAD = -1, NO = -2, FULL = -3, NONE = -4;

    private static final long LOST_BAD = -1000000000000L;
    private static final long LOST_NO = -1000000000002L;
    private static final long GAINED_BAD = -1000000000000000L;
    private static final long GAINED_NONE = -1000000000000004L;
    private static final int ROD_BAD = -10000;
    private static final int ROD_NONE = -1000;

    private static final int MAX_UNITS = 16;
    private static final int MAX_SIZE = 1000000;
    private static final int MAX_RATIO = 10000;
    private static final int MAX_GRAINS = 1000000;
    private static final int MAX_AMOUNT = 1000000000;
    private static final int MAX_RENT = 1000000;
    private static final int DISTRICTS = 6;
    private static final int ALL_DISTRICTS = 63;
    private static final int WORDS = 10;
    private static final int LAST_DAY = 9999;
    private static final int WEEK_DAYS = 7;
    private static final int MAX_WEEKS = 100;
    private static final int PLAN_WEEKS = 10;
    private static final int MAX_KEPT = 2;

    private final Units units = new Units();
    private final Tables tables = new Tables();
    private final Ways ways = new Ways();
    private final Ground ground = new Ground();
    private final Trials trials = new Trials();
    private final Script script = new Script();
    private final Decrees decrees = new Decrees();
    private final Papers papers = new Papers();
    private final Rods rods = new Rods();
    private final Tours tours = new Tours();
    private final Folk folk = new Folk();
    private final int[] visits = new int[PLAN_WEEKS];
    private final Rods[] keptRods = new Rods[MAX_KEPT];
    private final Folk[] keptFolk = new Folk[MAX_KEPT];
    private int kept = 0;
    private int tolerance = 20;

    public OneMeasure() {
        for (int i = 0; i < MAX_KEPT; i++) {
            keptRods[i] = new Rods();
            keptFolk[i] = new Folk();
        }
    }

    private static boolean within(int value, int least, int most) {
        return value >= least && value <= most;
    }

    private static boolean isDistrict(int district) {
        return within(district, 0, DISTRICTS - 1);
    }

    private static boolean isDay(int day) {
        return within(day, 0, LAST_DAY);
    }

    /** Decrees may speak of units that nobody has told yet. */
    private static boolean isUnitNumber(int unit) {
        return within(unit, 0, MAX_UNITS - 1);
    }

    // ---- units, tables

    public int unit(int sort, int size, int heap) {
        if (!within(sort, 0, 1) || !within(size, 1, MAX_SIZE)) return BAD;
        if (!within(heap, 0, sort == 1 ? 100 : 0)) return BAD;
        if (units.count >= MAX_UNITS) return FULL;
        return units.add(sort, size, heap);
    }

    public int table(int from, int to, int p, int q, int d) {
        if (!units.told(from) || !units.told(to) || from == to) return BAD;
        if (!within(p, 1, MAX_RATIO) || !within(q, 1, MAX_RATIO) || !within(d, 0, 3)) return BAD;
        if (!units.alike(from, to)) return NO;
        tables.put(from, to, p, q, d);
        ways.forget();
        return 0;
    }

    public long turn(int from, int to, int x) {
        if (!units.told(from) || !units.told(to) || !within(x, 0, MAX_AMOUNT)) return BAD;
        if (!tables.has(from, to)) return NO;
        return tables.turned(from, to, x);
    }

    public long lost(int a, int b, int x) {
        if (!units.told(a) || !units.told(b) || !within(x, 0, MAX_AMOUNT)) return LOST_BAD;
        if (!tables.has(a, b) || !tables.has(b, a)) return LOST_NO;
        return x - tables.turned(b, a, tables.turned(a, b, x));
    }

    public long best(int i) {
        if (i < -2) return BAD;
        ways.find(tables);
        if (ways.length == 0) return NONE;
        if (i == -1) return ways.amount;
        if (i == -2) return ways.length;
        return i < ways.length ? ways.bestRow[i] : NONE;
    }

    public int chain(int party, int yards, int angle) {
        if (!within(party, 0, 1) || !within(yards, 1, 1000000) || !within(angle, 1, 1000)) return BAD;
        if (ground.count >= Ground.MAX_CHAINS) return FULL;
        return ground.add(party, yards, angle);
    }

    public long earth(int what, int part) {
        if (!within(what, 0, 4) || !within(part, 0, 1)) return BAD;
        if (!ground.reckon(what)) return NONE;
        return part == 0 ? ground.above : ground.below;
    }

    public int trial(int a, int b, int x, int y, int e) {
        if (!units.told(a) || !units.told(b) || !within(e, 0, MAX_GRAINS)) return BAD;
        if (!within(x, 1, MAX_RATIO) || !within(y, 1, MAX_RATIO)) return BAD;
        if (a == b || !units.alike(a, b)) return NO;
        if (trials.count >= Trials.MAX_TRIALS) return FULL;
        return trials.add(a, b, x, y, e);
    }

    public int span(int u, int v, int s, int what) {
        if (!units.told(u) || !units.told(v) || !within(s, 1, MAX_SIZE) || !within(what, 0, 3)) return BAD;
        if (u == v || !units.alike(u, v)) return NO;
        trials.narrow(u, v, s);
        if (trials.least > trials.greatest) return NONE;
        if (what == 0) return (int) trials.least;
        if (what == 1) return (int) trials.greatest;
        trials.divide(s);
        return what == 2 ? trials.partingX : trials.partingY;
    }

    // ---- decrees

    public int write(int n, long v) {
        if (!within(n, 1, 8)) return BAD;
        if (script.length + n > Script.MAX_BYTES) return FULL;
        return script.add(n, v);
    }

    public int clear() {
        int was = script.length;
        script.length = 0;
        return was;
    }

    public int fault() {
        return script.firstFault();
    }

    public int force() {
        if (script.firstFault() != NONE) return NO;
        return decrees.take(script);
    }

    public int let(int unit, int district, int day) {
        if (!isUnitNumber(unit) || !isDistrict(district) || !isDay(day)) return BAD;
        return decrees.lets(unit, district, day) ? 1 : 0;
    }

    public int why(int unit, int district, int day) {
        if (!isUnitNumber(unit) || !isDistrict(district) || !isDay(day)) return BAD;
        return decrees.ruling(unit, district, day);
    }

    public int quarrels(int unit, int district, int what) {
        if (!isUnitNumber(unit) || !isDistrict(district) || !within(what, 0, 1)) return BAD;
        decrees.findQuarrels(unit, district);
        return what == 0 ? decrees.quarrelDays : decrees.firstQuarrel;
    }

    public int means(int word, int district, int day, int what) {
        if (!within(word, 0, WORDS - 1) || !isDistrict(district)) return BAD;
        if (!isDay(day) || !within(what, 0, 1)) return BAD;
        return what == 0 ? decrees.meanings(word, district, day) : decrees.surely(word, district, day);
    }

    // ---- papers

    public int paper(int district, int word, int day, int amount, int reading) {
        if (!isDistrict(district) || !within(word, 0, WORDS - 1) || !isDay(day)) return BAD;
        if (!within(amount, 1, MAX_RENT) || !within(reading, 0, 2)) return BAD;
        if (papers.count >= Papers.MAX_PAPERS) return FULL;
        return papers.add(district, word, day, amount, reading);
    }

    public long owed(int paper, int day, int what) {
        if (!papers.told(paper) || !within(day, -1, LAST_DAY) || !within(what, 0, 1)) return BAD;
        int on = day == -1 ? papers.day[paper] : day;
        if (!papers.reckon(paper, on, units, decrees)) return NONE;
        return what == 0 ? papers.least : papers.most;
    }

    public long gained(int paper, int day) {
        if (!papers.told(paper) || !isDay(day)) return GAINED_BAD;
        if (!papers.reckon(paper, papers.day[paper], units, decrees)) return GAINED_NONE;
        long then = papers.least;
        if (!papers.reckon(paper, day, units, decrees)) return GAINED_NONE;
        return papers.most - then;
    }

    // ---- rods

    public int rod(int unit, int district, int off, int wear, int sales) {
        if (!units.told(unit) || !isDistrict(district) || !within(off, -200, 200)) return BAD;
        if (!within(wear, 0, 20) || !within(sales, 0, 1000)) return BAD;
        if (rods.count >= Rods.MAX_RODS) return FULL;
        return rods.add(unit, district, off, wear, sales);
    }

    public int allowed(int v) {
        if (!within(v, 0, 200)) return BAD;
        int was = tolerance;
        tolerance = v;
        return was;
    }

    public int plan(int i, int districts) {
        if (!within(i, 0, PLAN_WEEKS - 1) || !within(districts, 0, ALL_DISTRICTS)) return BAD;
        int was = visits[i];
        visits[i] = districts;
        return was;
    }

    public int weeks(int n) {
        if (!within(n, 1, 20)) return BAD;
        if (rods.week + n > MAX_WEEKS) return FULL;
        for (int i = 0; i < n; i++) {
            rods.passWeek(units, decrees, tolerance, visits[0]);
            movePlanOn();
        }
        return rods.week;
    }

    private void movePlanOn() {
        for (int i = 0; i + 1 < PLAN_WEEKS; i++) visits[i] = visits[i + 1];
        visits[PLAN_WEEKS - 1] = 0;
    }

    public int rodTold(int rod, int what) {
        if (!rods.told(rod) || !within(what, 0, 3)) return ROD_BAD;
        switch (what) {
            case 0: return rods.offAfter(rod, rods.worn[rod]);
            case 1: return rods.sealed[rod];
            case 2: return rods.seized[rod];
            default: return rods.falseSince(rod, tolerance);
        }
    }

    public long cheated(int district, int what) {
        if (!isDistrict(district) || !within(what, 0, 1)) return BAD;
        return what == 0 ? rods.taken[district] : rods.given[district];
    }

    public long rounds(int w, int k, int i) {
        if (!within(w, 1, Tours.LONGEST) || !within(k, 1, 2) || !within(i, -1, w - 1)) return BAD;
        tours.price(rods, units, decrees, tolerance, w);
        tours.seek(w, k);
        return i == -1 ? tours.least : tours.bestSets[i];
    }

    // ---- people

    public int people(int district, int old, int young, int school, int trust) {
        if (!isDistrict(district)) return BAD;
        if (!within(old, 0, Folk.MOST) || !within(young, 0, Folk.MOST)) return BAD;
        if (old + young > Folk.MOST) return BAD;
        if (!within(school, 0, 500) || !within(trust, 0, 500)) return BAD;
        folk.put(district, old, young, school, trust);
        return 0;
    }

    public int seasons(int n) {
        if (!within(n, 1, 100)) return BAD;
        for (int i = 0; i < n; i++) folk.passSeason();
        return folk.allNew();
    }

    public int uses(int district, int what) {
        if (!isDistrict(district) || !within(what, 0, 2)) return BAD;
        if (what == 0) return folk.oldUsers[district];
        if (what == 1) return folk.newUsers[district];
        return folk.seasonsTillHalf(district);
    }

    public int keep() {
        if (kept >= MAX_KEPT) return FULL;
        keptRods[kept].copyFrom(rods);
        keptFolk[kept].copyFrom(folk);
        kept++;
        return kept;
    }

    public int back() {
        if (kept <= 0) return NO;
        kept--;
        rods.copyFrom(keptRods[kept]);
        folk.copyFrom(keptFolk[kept]);
        return kept;
    }

    public int count(int what) {
        switch (what) {
            case 0: return units.count;
            case 1: return tables.count;
            case 2: return ground.count;
            case 3: return trials.count;
            case 4: return script.length;
            case 5: return decrees.count;
            case 6: return papers.count;
            case 7: return rods.count;
            case 8: return rods.week;
            case 9: return rods.howManySeized();
            case 10: return kept;
            default: return BAD;
        }
    }

    /** The units that have been told. */
    private static final class Units {
        final int[] sort = new int[MAX_UNITS];
        final int[] size = new int[MAX_UNITS];
        final int[] heap = new int[MAX_UNITS];
        int count = 0;

        int add(int itsSort, int itsSize, int itsHeap) {
            sort[count] = itsSort;
            size[count] = itsSize;
            heap[count] = itsHeap;
            return count++;
        }

        boolean told(int unit) {
            return unit >= 0 && unit < count;
        }

        boolean alike(int a, int b) {
            return sort[a] == sort[b];
        }
    }

    /** The tables, one place for each pair of units; a ratio of 0 means that there is none. */
    private static final class Tables {
        final int[] times = new int[MAX_UNITS * MAX_UNITS];
        final int[] by = new int[MAX_UNITS * MAX_UNITS];
        final int[] grain = new int[MAX_UNITS * MAX_UNITS];
        int count = 0;

        void put(int from, int to, int p, int q, int figures) {
            int at = from * MAX_UNITS + to;
            if (by[at] == 0) count++;
            times[at] = p;
            by[at] = q;
            grain[at] = grainOf(figures);
        }

        private static int grainOf(int figures) {
            switch (figures) {
                case 0: return 1000;
                case 1: return 100;
                case 2: return 10;
                default: return 1;
            }
        }

        boolean has(int from, int to) {
            return by[from * MAX_UNITS + to] > 0;
        }

        long turned(int from, int to, long x) {
            int at = from * MAX_UNITS + to;
            if (by[at] < 1 || grain[at] < 1) return 0;
            long whole = x * times[at] / by[at];
            return whole - whole % grain[at];
        }
    }

    /** The best way round, sought anew only when a table has changed. */
    private static final class Ways {
        static final int LONGEST = 4;
        private static final long START = 1000000L;
        private static final long MOST = 1000000000000L;

        final int[] bestRow = new int[LONGEST];
        long amount = 0;
        int length = 0;
        private final int[] row = new int[LONGEST];
        private boolean known = false;

        void forget() {
            known = false;
        }

        void find(Tables tables) {
            if (known) return;
            length = 0;
            amount = 0;
            for (int first = 0; first < MAX_UNITS; first++) {
                row[0] = first;
                walk(this, tables, 1, START, 1 << first);
            }
            known = true;
        }

        /**
         * Rows of one length are met from the lowest units on, so of equals the first one stays. It is
         * static because LANGUAGE.md wants recursion so.
         */
        private static void walk(Ways ways, Tables tables, int depth, long x, int used) {
            if (depth < 1 || depth > LONGEST) return;
            int first = ways.row[0];
            int last = ways.row[depth - 1];
            if (tables.has(last, first)) ways.close(tables.turned(last, first, x), depth);
            if (depth == LONGEST) return;
            for (int next = 0; next < MAX_UNITS; next++) {
                if ((used >> next & 1) != 0 || !tables.has(last, next)) continue;
                long there = tables.turned(last, next, x);
                if (there > MOST) continue;
                ways.row[depth] = next;
                walk(ways, tables, depth + 1, there, used | 1 << next);
            }
        }

        private void close(long end, int depth) {
            if (end > MOST) return;
            boolean better = length == 0 || end > amount || end == amount && depth < length;
            if (!better) return;
            amount = end;
            length = depth;
            for (int i = 0; i < depth; i++) bestRow[i] = row[i];
        }
    }

    /** The chains laid over the earth, and the fraction last reckoned from them. */
    private static final class Ground {
        static final int MAX_CHAINS = 12;
        private static final long ROUND = 40000;
        private static final long NEW_PARTS = 1000;
        private static final int BOTH = 2, NEW = 3, DOUBT = 4;
        private static final int GCD_STEPS = 100;

        private final int[] party = new int[MAX_CHAINS];
        private final int[] yards = new int[MAX_CHAINS];
        private final int[] angle = new int[MAX_CHAINS];
        int count = 0;
        long above = 0;
        long below = 1;

        int add(int itsParty, int itsYards, int itsAngle) {
            party[count] = itsParty;
            yards[count] = itsYards;
            angle[count] = itsAngle;
            count++;
            return count;
        }

        /** False if there are no chains of it. */
        boolean reckon(int what) {
            if (what == DOUBT) return reckonDoubt();
            long allYards = 0;
            long allParts = 0;
            for (int i = 0; i < count; i++) {
                if (what < BOTH && party[i] != what) continue;
                allYards += yards[i];
                allParts += angle[i];
            }
            if (allParts == 0) return false;
            // a 40000000th of a girth of 40000 angle parts: the 40000 falls out
            if (what == NEW) reduce(allYards, allParts * NEW_PARTS);
            else reduce(allYards * ROUND, allParts);
            return true;
        }

        private boolean reckonDoubt() {
            if (count == 0) return false;
            int most = 0;
            int least = 0;
            for (int i = 1; i < count; i++) {
                if (cross(i, most) > cross(most, i)) most = i;
                if (cross(i, least) < cross(least, i)) least = i;
            }
            reduce(cross(most, least) - cross(least, most), (long) angle[most] * angle[least]);
            return true;
        }

        private long cross(int a, int b) {
            return (long) yards[a] * angle[b];
        }

        private void reduce(long up, long down) {
            long common = commonDivisor(up, down);
            if (common < 1) return;
            above = up / common;
            below = down / common;
        }

        private static long commonDivisor(long a, long b) {
            long big = a;
            long small = b;
            for (int i = 0; i < GCD_STEPS && small > 0; i++) {
                long rest = big % small;
                big = small;
                small = rest;
            }
            return big;
        }
    }

    /** The trials, and the span last narrowed by them. */
    private static final class Trials {
        static final int MAX_TRIALS = 30;
        private static final int MOST_PARTING = 10;

        private final int[] one = new int[MAX_TRIALS];
        private final int[] other = new int[MAX_TRIALS];
        private final int[] ofOne = new int[MAX_TRIALS];
        private final int[] ofOther = new int[MAX_TRIALS];
        private final int[] error = new int[MAX_TRIALS];
        int count = 0;
        long least = 1;
        long greatest = MAX_SIZE;
        int partingX = 1;
        int partingY = 1;

        int add(int a, int b, int x, int y, int e) {
            one[count] = a;
            other[count] = b;
            ofOne[count] = x;
            ofOther[count] = y;
            error[count] = e;
            count++;
            return count;
        }

        void narrow(int u, int v, long size) {
            least = 1;
            greatest = MAX_SIZE;
            for (int i = 0; i < count; i++) {
                if (one[i] == u && other[i] == v) clip(ofOne[i], size * ofOther[i], error[i]);
                if (one[i] == v && other[i] == u) clip(ofOther[i], size * ofOne[i], error[i]);
            }
        }

        /** Leaves the sizes that, so many times, are within the error of the other side. */
        private void clip(int times, long side, int e) {
            if (times < 1) return;
            if (side > e) least = Math.max(least, (side - e + times - 1) / times);
            greatest = Math.min(greatest, (side + e) / times);
        }

        void divide(long size) {
            long fewest = Long.MAX_VALUE;
            for (int x = 1; x <= MOST_PARTING; x++) {
                for (int y = 1; y <= MOST_PARTING; y++) {
                    long left = leftAtMost(y * size / x);
                    if (left >= fewest) continue;
                    fewest = left;
                    partingX = x;
                    partingY = y;
                }
            }
        }

        /** How many sizes the fuller side has, if those up to the edge are on one. */
        private long leftAtMost(long edge) {
            long all = greatest - least + 1;
            long low = Math.max(0, Math.min(greatest, edge) - least + 1);
            return Math.max(low, all - low);
        }
    }

    /** The text as it is written, and the item last read from it. */
    private static final class Script {
        static final int MAX_BYTES = 300;
        static final int NUMBERS = 4;
        private static final int MAX_FIGURES = 4;
        private static final int BROKEN = -1;

        private final int[] bytes = new int[MAX_BYTES];
        final int[] numbers = new int[NUMBERS];
        int letter = 0;
        int length = 0;

        int add(int n, long v) {
            for (int i = n - 1; i >= 0; i--) {
                bytes[length] = (int) (v >>> (8 * i) & 255);
                length++;
            }
            return length;
        }

        int firstFault() {
            int at = 0;
            for (int i = 0; i < MAX_BYTES && at < length; i++) {
                int behind = readItem(at);
                if (behind == BROKEN) return at;
                at = behind;
            }
            return NONE;
        }

        /** The place behind the item that begins there, or BROKEN. */
        int readItem(int start) {
            letter = byteAt(start);
            int at = start + 1;
            for (int i = 0; i < NUMBERS; i++) {
                int behind = readNumber(at, i);
                if (behind == BROKEN) return BROKEN;
                if (byteAt(behind) != (i + 1 < NUMBERS ? ',' : ';')) return BROKEN;
                at = behind + 1;
            }
            return isSound() ? at : BROKEN;
        }

        private int readNumber(int start, int which) {
            int value = 0;
            int figures = 0;
            for (int i = 0; i < MAX_FIGURES; i++) {
                int sign = byteAt(start + i);
                if (sign < '0' || sign > '9') break;
                value = value * 10 + sign - '0';
                figures++;
            }
            numbers[which] = value;
            return figures == 0 ? BROKEN : start + figures;
        }

        private int byteAt(int place) {
            return place >= 0 && place < length ? bytes[place] : -1;
        }

        /** Numbers of four figures are days already, so only the order of two days is tested. */
        private boolean isSound() {
            switch (letter) {
                case 'a':
                case 'b':
                    return isUnitNumber(numbers[0]) && isDistrict(numbers[1]) && numbers[2] <= numbers[3];
                case 'n':
                    return numbers[0] < WORDS && isUnitNumber(numbers[1]) && isDistrict(numbers[2]);
                case 'h':
                    return isDistrict(numbers[0]) && numbers[1] <= 1 && numbers[2] <= numbers[3];
                default:
                    return false;
            }
        }
    }

    /** The items in force. */
    private static final class Decrees {
        // the shortest item has nine bytes
        private static final int MAX_ITEMS = Script.MAX_BYTES / 9;
        private static final int EITHER = -1;

        private final int[] letter = new int[MAX_ITEMS];
        private final int[] first = new int[MAX_ITEMS];
        private final int[] second = new int[MAX_ITEMS];
        private final int[] third = new int[MAX_ITEMS];
        private final int[] fourth = new int[MAX_ITEMS];
        int count = 0;
        int quarrelDays = 0;
        int firstQuarrel = NONE;

        /** Takes over a script without fault. */
        int take(Script script) {
            count = 0;
            int at = 0;
            for (int i = 0; i < MAX_ITEMS && at >= 0 && at < script.length; i++) {
                at = script.readItem(at);
                letter[i] = script.letter;
                first[i] = script.numbers[0];
                second[i] = script.numbers[1];
                third[i] = script.numbers[2];
                fourth[i] = script.numbers[3];
                count++;
            }
            return count;
        }

        private boolean ofUse(int item, int sign, int unit, int district) {
            return letter[item] == sign && first[item] == unit && second[item] == district;
        }

        private boolean onDay(int item, int day) {
            return third[item] <= day && day <= fourth[item];
        }

        /** The item by which the unit is let or not. */
        int ruling(int unit, int district, int day) {
            for (int i = count - 1; i >= 0; i--) {
                boolean ofIt = ofUse(i, 'a', unit, district) || ofUse(i, 'b', unit, district);
                if (ofIt && onDay(i, day)) return i;
            }
            return NONE;
        }

        boolean lets(int unit, int district, int day) {
            int item = ruling(unit, district, day);
            return item < 0 || letter[item] == 'a';
        }

        /** Goes from day to day only where an item begins or ends. */
        void findQuarrels(int unit, int district) {
            quarrelDays = 0;
            firstQuarrel = NONE;
            int day = 0;
            for (int step = 0; step <= 2 * MAX_ITEMS && day <= LAST_DAY; step++) {
                int next = nextChange(unit, district, day);
                if (tells('a', unit, district, day) && tells('b', unit, district, day)) {
                    quarrelDays += next - day;
                    if (firstQuarrel == NONE) firstQuarrel = day;
                }
                day = next;
            }
        }

        private boolean tells(int sign, int unit, int district, int day) {
            for (int i = 0; i < count; i++) {
                if (ofUse(i, sign, unit, district) && onDay(i, day)) return true;
            }
            return false;
        }

        private int nextChange(int unit, int district, int day) {
            int next = LAST_DAY + 1;
            for (int i = 0; i < count; i++) {
                if (!ofUse(i, 'a', unit, district) && !ofUse(i, 'b', unit, district)) continue;
                if (third[i] > day) next = Math.min(next, third[i]);
                if (fourth[i] >= day) next = Math.min(next, fourth[i] + 1);
            }
            return next;
        }

        private boolean ofWord(int item, int word, int district, int day) {
            return letter[item] == 'n' && first[item] == word && third[item] == district && fourth[item] <= day;
        }

        int meanings(int word, int district, int day) {
            int bits = 0;
            for (int i = 0; i < count; i++) {
                if (ofWord(i, word, district, day)) bits |= 1 << second[i];
            }
            return bits;
        }

        int surely(int word, int district, int day) {
            int latest = latestOf(word, district, day);
            if (latest < 0) return NONE;
            int unit = second[latest];
            int others = meanings(word, district, day) & ~(1 << unit);
            for (int u = 0; u < MAX_UNITS; u++) {
                if ((others >> u & 1) != 0 && lets(u, district, day)) return NONE;
            }
            return unit;
        }

        private int latestOf(int word, int district, int day) {
            int latest = NONE;
            for (int i = 0; i < count; i++) {
                if (!ofWord(i, word, district, day)) continue;
                if (latest < 0 || fourth[i] >= fourth[latest]) latest = i;
            }
            return latest;
        }

        /** 1 heaped, 0 struck, EITHER if nothing is told. */
        int heaping(int district, int day) {
            for (int i = count - 1; i >= 0; i--) {
                if (letter[i] == 'h' && first[i] == district && onDay(i, day)) return second[i];
            }
            return EITHER;
        }
    }

    /** The papers, and the rents last reckoned by one. */
    private static final class Papers {
        static final int MAX_PAPERS = 10;
        private static final int STRUCK = 0, HEAPED = 1;
        private static final int READ_HEAPED = 0, READ_STRUCK = 1;

        private final int[] district = new int[MAX_PAPERS];
        private final int[] word = new int[MAX_PAPERS];
        final int[] day = new int[MAX_PAPERS];
        private final int[] amount = new int[MAX_PAPERS];
        private final int[] reading = new int[MAX_PAPERS];
        int count = 0;
        long least = 0;
        long most = 0;
        private boolean any = false;

        int add(int itsDistrict, int itsWord, int itsDay, int itsAmount, int itsReading) {
            district[count] = itsDistrict;
            word[count] = itsWord;
            day[count] = itsDay;
            amount[count] = itsAmount;
            reading[count] = itsReading;
            return count++;
        }

        boolean told(int paper) {
            return paper >= 0 && paper < count;
        }

        /** False if the word means nothing then. */
        boolean reckon(int paper, int on, Units units, Decrees decrees) {
            any = false;
            int bits = decrees.meanings(word[paper], district[paper], on);
            int rule = ruleFor(paper, on, decrees);
            for (int u = 0; u < units.count; u++) {
                if ((bits >> u & 1) == 0) continue;
                long grains = (long) amount[paper] * units.size[u];
                boolean room = units.sort[u] == 1;
                if (!room || rule != HEAPED) consider(grains / 1000);
                if (room && rule != STRUCK) consider(grains * (100 + units.heap[u]) / 100 / 1000);
            }
            return any;
        }

        private int ruleFor(int paper, int on, Decrees decrees) {
            if (reading[paper] == READ_HEAPED) return HEAPED;
            if (reading[paper] == READ_STRUCK) return STRUCK;
            return decrees.heaping(district[paper], on);
        }

        private void consider(long rent) {
            least = any ? Math.min(least, rent) : rent;
            most = any ? Math.max(most, rent) : rent;
            any = true;
        }
    }

    /** The rods, the weeks of their sales, and what those did to the buyers. */
    private static final class Rods {
        static final int MAX_RODS = 12;
        private static final int SHORTEST = -500;

        int count = 0;
        int week = 0;
        final int[] unit = new int[MAX_RODS];
        final int[] district = new int[MAX_RODS];
        // how far off it is in any week follows from these four, so no week is written down
        private final int[] offAtFirst = new int[MAX_RODS];
        private final int[] wear = new int[MAX_RODS];
        private final int[] firstWeek = new int[MAX_RODS];
        final int[] worn = new int[MAX_RODS];
        private final int[] sales = new int[MAX_RODS];
        final int[] sealed = new int[MAX_RODS];
        final int[] seized = new int[MAX_RODS];
        final long[] taken = new long[DISTRICTS];
        final long[] given = new long[DISTRICTS];

        int add(int itsUnit, int itsDistrict, int off, int itsWear, int itsSales) {
            unit[count] = itsUnit;
            district[count] = itsDistrict;
            offAtFirst[count] = off;
            wear[count] = itsWear;
            firstWeek[count] = week;
            worn[count] = 0;
            sales[count] = itsSales;
            sealed[count] = 0;
            seized[count] = 0;
            return count++;
        }

        boolean told(int rod) {
            return rod >= 0 && rod < count;
        }

        int howManySeized() {
            int sum = 0;
            for (int i = 0; i < count; i++) sum += seized[i];
            return sum;
        }

        int offAfter(int rod, int weeksWorn) {
            return Math.max(SHORTEST, offAtFirst[rod] - wear[rod] * weeksWorn);
        }

        /** What its sales in one week give too little, or too much if that is below 0. */
        long shortIn(int rod, int weeksWorn, Units units) {
            return (long) sales[rod] * units.size[unit[rod]] * -offAfter(rod, weeksWorn) / 1000;
        }

        /** Whether inspectors seize it in a week, having worn so often. */
        boolean isForfeit(int rod, int weeksWorn, int inWeek, Decrees decrees, int tolerance) {
            if (Math.abs(offAfter(rod, weeksWorn)) > tolerance) return true;
            return !decrees.lets(unit[rod], district[rod], WEEK_DAYS * inWeek);
        }

        void passWeek(Units units, Decrees decrees, int tolerance, int visited) {
            for (int i = 0; i < count; i++) {
                if (seized[i] != 0) continue;
                sell(i, units);
                worn[i]++;
                if ((visited >> district[i] & 1) == 0) continue;
                if (isForfeit(i, worn[i], week, decrees, tolerance)) seized[i] = 1;
                else sealed[i] = 1;
            }
            week++;
        }

        private void sell(int rod, Units units) {
            long tooLittle = shortIn(rod, worn[rod], units);
            if (tooLittle > 0) taken[district[rod]] += tooLittle;
            else given[district[rod]] -= tooLittle;
        }

        int falseSince(int rod, int tolerance) {
            if (sales[rod] < 1) return ROD_NONE;
            for (int i = 0; i < worn[rod]; i++) {
                if (Math.abs(offAfter(rod, i)) > tolerance) return firstWeek[rod] + i;
            }
            return ROD_NONE;
        }

        void copyFrom(Rods from) {
            count = from.count;
            week = from.week;
            System.arraycopy(from.unit, 0, unit, 0, MAX_RODS);
            System.arraycopy(from.district, 0, district, 0, MAX_RODS);
            System.arraycopy(from.offAtFirst, 0, offAtFirst, 0, MAX_RODS);
            System.arraycopy(from.wear, 0, wear, 0, MAX_RODS);
            System.arraycopy(from.firstWeek, 0, firstWeek, 0, MAX_RODS);
            System.arraycopy(from.worn, 0, worn, 0, MAX_RODS);
            System.arraycopy(from.sales, 0, sales, 0, MAX_RODS);
            System.arraycopy(from.sealed, 0, sealed, 0, MAX_RODS);
            System.arraycopy(from.seized, 0, seized, 0, MAX_RODS);
            System.arraycopy(from.taken, 0, taken, 0, DISTRICTS);
            System.arraycopy(from.given, 0, given, 0, DISTRICTS);
        }
    }

    /**
     * The best rounds of inspectors. What a district loses hangs only on the weeks in which it is
     * visited, so that is priced once and the plans are but sums of it. A visit in the last week comes
     * behind its sales and saves nothing: that week's set is always empty in the least plan.
     */
    private static final class Tours {
        static final int LONGEST = 4;
        private static final int PATTERNS = 1 << (LONGEST - 1);

        final int[] bestSets = new int[LONGEST];
        long least = 0;
        private final long[] loss = new long[DISTRICTS * PATTERNS];
        private final int[] sets = new int[LONGEST];

        /** What each district loses in w weeks by each pattern of weeks with visits. */
        void price(Rods rods, Units units, Decrees decrees, int tolerance, int w) {
            Arrays.fill(loss, 0L);
            for (int i = 0; i < rods.count; i++) {
                if (rods.seized[i] != 0) continue;
                int forfeit = forfeitWeeks(i, rods, decrees, tolerance, w);
                for (int pattern = 0; pattern < PATTERNS; pattern++) {
                    int at = rods.district[i] * PATTERNS + pattern;
                    loss[at] += lossOf(i, rods, units, pattern & forfeit, w);
                }
            }
        }

        private static int forfeitWeeks(int rod, Rods rods, Decrees decrees, int tolerance, int w) {
            int bits = 0;
            for (int j = 0; j < w; j++) {
                if (rods.isForfeit(rod, rods.worn[rod] + j + 1, rods.week + j, decrees, tolerance)) bits |= 1 << j;
            }
            return bits;
        }

        private static long lossOf(int rod, Rods rods, Units units, int seizures, int w) {
            long sum = 0;
            for (int j = 0; j < w; j++) {
                sum += Math.max(0, rods.shortIn(rod, rods.worn[rod] + j, units));
                if ((seizures >> j & 1) != 0) break;
            }
            return sum;
        }

        void seek(int w, int k) {
            least = Long.MAX_VALUE;
            Arrays.fill(sets, 0);
            choose(this, 0, w - 1, k);
        }

        /** Plans are met from the least sets on, so of equals the first one stays. */
        private static void choose(Tours tours, int week, int visitedWeeks, int k) {
            if (week >= visitedWeeks || week >= LONGEST - 1) {
                tours.weigh();
                return;
            }
            int worthwhile = tours.worthwhileIn(week);
            for (int set = 0; set <= worthwhile; set++) {
                if ((set & ~worthwhile) != 0 || Integer.bitCount(set) > k) continue;
                tours.sets[week] = set;
                choose(tours, week + 1, visitedWeeks, k);
            }
            tours.sets[week] = 0;
        }

        /**
         * The districts where a visit saves something behind those before it. One that saves nothing
         * by itself saves nothing with later ones either, so it is in no least plan.
         */
        private int worthwhileIn(int week) {
            int bits = 0;
            for (int d = 0; d < DISTRICTS; d++) {
                int before = patternOf(d);
                if (loss[d * PATTERNS + (before | 1 << week)] < loss[d * PATTERNS + before]) bits |= 1 << d;
            }
            return bits;
        }

        private int patternOf(int district) {
            int pattern = 0;
            for (int j = 0; j < LONGEST - 1; j++) pattern |= (sets[j] >> district & 1) << j;
            return pattern;
        }

        private void weigh() {
            long sum = 0;
            for (int d = 0; d < DISTRICTS; d++) sum += loss[d * PATTERNS + patternOf(d)];
            if (sum >= least) return;
            least = sum;
            for (int j = 0; j < LONGEST; j++) bestSets[j] = sets[j];
        }
    }

    /** The people of the districts, by what they use. */
    private static final class Folk {
        static final int MOST = 100000;
        private static final int TRIED_SEASONS = 400;

        final int[] oldUsers = new int[DISTRICTS];
        final int[] newUsers = new int[DISTRICTS];
        private final int[] school = new int[DISTRICTS];
        private final int[] trust = new int[DISTRICTS];

        void put(int district, int old, int young, int itsSchool, int itsTrust) {
            oldUsers[district] = old;
            newUsers[district] = young;
            school[district] = itsSchool;
            trust[district] = itsTrust;
        }

        void passSeason() {
            for (int d = 0; d < DISTRICTS; d++) {
                int change = changeOf(d, oldUsers[d], newUsers[d]);
                oldUsers[d] -= change;
                newUsers[d] += change;
            }
        }

        /** How many more use the new behind a season. */
        private int changeOf(int district, int old, int young) {
            int learn = old * (school[district] + trust[district]) / 1000;
            int then = young + learn;
            int forget = then < old - learn ? then * 5 / 1000 : 0;
            return learn - forget;
        }

        int allNew() {
            int sum = 0;
            for (int d = 0; d < DISTRICTS; d++) sum += newUsers[d];
            return sum;
        }

        int seasonsTillHalf(int district) {
            int old = oldUsers[district];
            int young = newUsers[district];
            for (int tried = 0; tried <= TRIED_SEASONS; tried++) {
                if (young >= old) return tried;
                int change = changeOf(district, old, young);
                old -= change;
                young += change;
            }
            return NONE;
        }

        void copyFrom(Folk from) {
            System.arraycopy(from.oldUsers, 0, oldUsers, 0, DISTRICTS);
            System.arraycopy(from.newUsers, 0, newUsers, 0, DISTRICTS);
            System.arraycopy(from.school, 0, school, 0, DISTRICTS);
            System.arraycopy(from.trust, 0, trust, 0, DISTRICTS);
        }
    }
}
