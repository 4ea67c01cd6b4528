/** The edges that the document names for rods, weeks and inspectors: promises 22 to 28. */
public final class RodsEdgeTest {
    private static final long BAD = Edges.BAD, FULL = Edges.FULL;
    private static final long ROD_BAD = -10000, NEVER = -1000;
    private static final int OFF = 0, SEALED = 1, SEIZED = 2, SINCE = 3;

    public static void main(String[] args) {
        Edges.run(RodsEdgeTest.class, 22, 28);
    }

    private static void due(String what, long got, long want) {
        Edges.due(what, got, want);
    }

    // ---- promise 22

    /** "a unit": one that is told. */
    private static void p22_unit() {
        Edges.edges("unit, of 4", Edges::told, BAD, 0, 4, 3, 4, (m, unit) -> m.rod(unit, 0, 0, 0, 0));
        Edges.edges("unit, of 16", () -> Edges.units(1, 16), BAD, 0, 0, 15, 0, (m, unit) -> m.rod(unit, 0, 0, 0, 0));
        Edges.refused("of none", OneMeasure::new, BAD, m -> m.rod(0, 0, 0, 0, 0));
    }

    /** "DISTRICTS 0 to 5" */
    private static void p22_district() {
        Edges.edges("district", Edges::told, BAD, 0, 4, 5, 4, (m, d) -> m.rod(0, d, 0, 0, 0));
    }

    /** "in thousandths of SIZE (-200 to 200)" */
    private static void p22_off() {
        Edges.edges("off", Edges::told, BAD, -200, 4, 200, 4, (m, off) -> m.rod(0, 0, off, 0, 0));
        OneMeasure m = Edges.units(0, 1);
        m.rod(0, 0, -200, 0, 0);
        m.rod(0, 0, 200, 0, 0);
        due("the shortest", m.rodTold(0, OFF), -200);
        due("the longest", m.rodTold(1, OFF), 200);
    }

    /** "WEAR (0 to 20 thousandths each WEEK; it gets shorter)" */
    private static void p22_wear() {
        Edges.edges("wear", Edges::told, BAD, 0, 4, 20, 4, (m, wear) -> m.rod(0, 0, 0, wear, 0));
        OneMeasure m = Edges.units(0, 1);
        m.rod(0, 0, 5, 0, 0);
        m.rod(0, 0, 5, 20, 0);
        m.weeks(1);
        due("wears not", m.rodTold(0, OFF), 5);
        due("wears most", m.rodTold(1, OFF), -15);
    }

    /** "each ROD sells s (0 to 1000) units each WEEK" */
    private static void p22_sales() {
        Edges.edges("sales", Edges::told, BAD, 0, 4, 1000, 4, (m, sales) -> m.rod(0, 0, 0, 0, sales));
        OneMeasure m = Edges.units(0, 1);
        m.rod(0, 0, -1, 0, 0);
        m.rod(0, 1, -1, 0, 1000);
        m.weeks(1);
        due("sells nothing", m.cheated(0, 0), 0);
        due("sells most", m.cheated(1, 0), 1000);
    }

    private static OneMeasure rods(int n) {
        OneMeasure m = Edges.told();
        for (int i = 4; i < n; i++) m.rod(0, i % 6, -i, 1, 10);
        return m;
    }

    /** "RODS 0 to 11 as they come" */
    private static void p22_numbersAsTheyCome() {
        OneMeasure m = Edges.units(0, 1);
        for (int i = 0; i < 12; i++) {
            due("told till now", m.count(7), i);
            due("rod", m.rod(0, 5, 200, 20, 1000), i);
        }
        due("told in all", m.count(7), 12);
    }

    /** "FULL: 12.": a SEIZED one leaves no room. */
    private static void p22_full() {
        due("the 12th", rods(11).rod(0, 0, 0, 0, 0), 11);
        Edges.refused("the 13th", () -> rods(12), FULL, m -> m.rod(0, 0, 0, 0, 0));
        due("one of them is seized", rods(12).count(9), 1);
    }

    /** "Of several the first" */
    private static void p22_badBeforeFull() {
        Edges.refused("unit", () -> rods(12), BAD, m -> m.rod(4, 0, 0, 0, 0));
        Edges.refused("district", () -> rods(12), BAD, m -> m.rod(0, 6, 0, 0, 0));
        Edges.refused("off", () -> rods(12), BAD, m -> m.rod(0, 0, 201, 0, 0));
        Edges.refused("wear", () -> rods(12), BAD, m -> m.rod(0, 0, 0, 21, 0));
        Edges.refused("sales", () -> rods(12), BAD, m -> m.rod(0, 0, 0, 0, 1001));
    }

    /** A new ROD is in hand, and not SEALED. */
    private static void p22_new() {
        OneMeasure m = rods(5);
        due("sealed", m.rodTold(4, SEALED), 0);
        due("seized", m.rodTold(4, SEIZED), 0);
        due("since", m.rodTold(4, SINCE), NEVER);
    }

    // ---- promise 23

    /** "ALLOWED (0 to 200": told() has 22. */
    private static void p23_value() {
        Edges.edges("v", Edges::told, BAD, 0, 22, 200, 22, (m, v) -> m.allowed(v));
        Edges.edges("v at first", OneMeasure::new, BAD, 0, 20, 200, 20, (m, v) -> m.allowed(v));
    }

    /** "what it was" */
    private static void p23_whatItWas() {
        OneMeasure m = new OneMeasure();
        due("20 at first", m.allowed(200), 20);
        due("200", m.allowed(0), 200);
        due("refused", m.allowed(201), BAD);
        due("refused", m.allowed(-1), BAD);
        due("0 still", m.allowed(7), 0);
        due("7", m.allowed(7), 7);
    }

    /** Two rods, long and short by as much, visited once. */
    private static OneMeasure visited(int allowed, int off) {
        OneMeasure m = Edges.units(0, 1);
        if (allowed >= 0) m.allowed(allowed);
        m.rod(0, 0, off, 0, 1);
        m.rod(0, 0, -off, 0, 1);
        m.plan(0, 1);
        m.weeks(1);
        return m;
    }

    private static void seizedBoth(String name, OneMeasure m, int seized) {
        for (int rod = 0; rod < 2; rod++) {
            due(name + ", seized, rod " + rod, m.rodTold(rod, SEIZED), seized);
            due(name + ", sealed, rod " + rod, m.rodTold(rod, SEALED), 1 - seized);
        }
    }

    /** "off by more than ALLOWED (0 to 200; 20 at first) in size" */
    private static void p23_offByMore() {
        seizedBoth("20 at first", visited(-1, 20), 0);
        seizedBoth("21 at first", visited(-1, 21), 1);
        seizedBoth("0 of 0", visited(0, 0), 0);
        seizedBoth("1 of 0", visited(0, 1), 1);
        seizedBoth("199 of 199", visited(199, 199), 0);
        seizedBoth("200 of 199", visited(199, 200), 1);
        seizedBoth("200 of 200", visited(200, 200), 0);
    }

    /** ALLOWED 200, and worn beyond it. */
    private static void p23_beyondAllAllowed() {
        OneMeasure m = Edges.units(0, 1);
        m.allowed(200);
        m.rod(0, 0, -200, 1, 1);
        m.rod(0, 0, -199, 1, 1);
        m.plan(0, 1);
        m.weeks(1);
        due("201 of 200", m.rodTold(0, SEIZED), 1);
        due("200 of 200", m.rodTold(1, SEIZED), 0);
    }

    // ---- promise 24

    /** "for the WEEK i from now (0 to 9)" */
    private static void p24_week() {
        Edges.edges("i", Edges::told, BAD, 0, 0, 9, 0, (m, i) -> m.plan(i, 5));
        due("what was told for WEEK 9, two WEEKS ago", Edges.told().plan(7, 5), 63);
    }

    /** "a set of DISTRICTS (bits)" */
    private static void p24_districts() {
        Edges.edges("districts, first", Edges::told, BAD, 0, 0, 63, 0, (m, districts) -> m.plan(0, districts));
        Edges.edges("districts, told anew", Edges::told, BAD, 0, 63, 63, 63, (m, districts) -> m.plan(7, districts));
    }

    /** "none at first", "what it was" */
    private static void p24_whatItWas() {
        OneMeasure m = new OneMeasure();
        for (int i = 0; i < 10; i++) due("at first", m.plan(i, 63 - i), 0);
        for (int i = 0; i < 10; i++) due("told", m.plan(i, 0), 63 - i);
        for (int i = 0; i < 10; i++) due("none again", m.plan(i, 0), 0);
    }

    private static OneMeasure falseEverywhere() {
        OneMeasure m = Edges.units(0, 1);
        for (int d = 0; d < 6; d++) m.rod(0, d, -100, 0, 1);
        return m;
    }

    /** "a set of DISTRICTS (bits)": bit D stands for DISTRICT D. */
    private static void p24_bits() {
        for (int set = 0; set < 64; set++) {
            OneMeasure m = falseEverywhere();
            m.plan(0, set);
            m.weeks(1);
            for (int d = 0; d < 6; d++) due("set " + set + ", district " + d, m.rodTold(d, SEIZED), set >> d & 1);
        }
    }

    /** "behind a WEEK it moves on" */
    private static void p24_movesOn() {
        OneMeasure m = new OneMeasure();
        for (int i = 0; i < 10; i++) m.plan(i, i + 1);
        m.weeks(1);
        for (int i = 0; i < 9; i++) due("moved by one, " + i, m.plan(i, i + 2), i + 2);
        due("none comes behind", m.plan(9, 0), 0);
        m.weeks(8);
        due("the last one", m.plan(0, 10), 10);
        m.weeks(1);
        for (int i = 0; i < 10; i++) due("gone, " + i, m.plan(i, 0), 0);
    }

    /** Each WEEK of one call has its own set. */
    private static void p24_eachWeekItsOwn() {
        OneMeasure m = falseEverywhere();
        for (int i = 0; i < 10; i++) m.plan(i, i == 0 ? 1 : i == 4 ? 2 : i == 9 ? 4 : 0);
        m.weeks(20);
        due("seized in WEEK 0", m.cheated(0, 0), 100);
        due("seized in WEEK 4", m.cheated(1, 0), 500);
        due("seized in WEEK 9", m.cheated(2, 0), 1000);
        due("never seized", m.cheated(3, 0), 2000);
    }

    // ---- promise 25

    /** "n WEEKS (1 to 20): how many there were." told() has 2 WEEKS. */
    private static void p25_howMany() {
        Edges.edges("n", Edges::told, BAD, 1, 3, 20, 22, (m, n) -> m.weeks(n));
        Edges.edges("n at first", OneMeasure::new, BAD, 1, 1, 20, 20, (m, n) -> m.weeks(n));
    }

    /** told(), with THE PLAN for WEEKS to come, when so many WEEKS are gone. */
    private static OneMeasure inWeek(int week) {
        OneMeasure m = Edges.told();
        for (int i = 0; i < 6 && m.count(8) < week; i++) m.weeks(Math.min(20, week - m.count(8)));
        m.plan(0, 8);
        m.plan(2, 5);
        return m;
    }

    /** "A WEEK (100 at most)", "FULL: beyond 100." */
    private static void p25_full() {
        due("80 and 20", inWeek(80).weeks(20), 100);
        due("99 and 1", inWeek(99).weeks(1), 100);
        due("98 and 2", inWeek(98).weeks(2), 100);
        Edges.refused("81 and 20", () -> inWeek(81), FULL, m -> m.weeks(20));
        Edges.refused("99 and 2", () -> inWeek(99), FULL, m -> m.weeks(2));
        Edges.refused("100 and 1", () -> inWeek(100), FULL, m -> m.weeks(1));
        Edges.refused("100 and 20", () -> inWeek(100), FULL, m -> m.weeks(20));
    }

    /** "Of several the first" */
    private static void p25_badBeforeFull() {
        Edges.refused("0", () -> inWeek(100), BAD, m -> m.weeks(0));
        Edges.refused("21", () -> inWeek(100), BAD, m -> m.weeks(21));
        Edges.refused("21 from 80", () -> inWeek(80), BAD, m -> m.weeks(21));
    }

    /** A rod of a unit of such a size after some weeks. */
    private static OneMeasure sold(int size, int off, int wear, int sales, int weeks) {
        OneMeasure m = new OneMeasure();
        m.unit(0, size, 0);
        m.rod(0, 0, off, wear, sales);
        for (int left = weeks; left > 0; left -= 20) m.weeks(Math.min(20, left));
        return m;
    }

    private static void market(String name, OneMeasure m, long cheated, long won) {
        due(name + ", cheated", m.cheated(0, 0), cheated);
        due(name + ", won", m.cheated(0, 1), won);
    }

    /** "by s times SIZE times how much it is short (in thousandths, if that is above 0) by 1000, cut" */
    private static void p25_cheated() {
        market("true", sold(1000000, 0, 0, 1000, 1), 0, 0);
        market("short by one", sold(1000, -1, 0, 1, 1), 1, 0);
        market("999 thousandths", sold(999, -1, 0, 1, 1), 0, 0);
        market("1999 thousandths", sold(1999, -1, 0, 1, 1), 1, 0);
        market("cut each WEEK", sold(999, -1, 0, 1, 20), 0, 0);
        market("sells none", sold(1000, -200, 0, 0, 1), 0, 0);
        market("the most", sold(1000000, -200, 0, 1000, 1), 200000000, 0);
    }

    /** "WON by them likewise, if it is long" */
    private static void p25_won() {
        market("long by one", sold(1000, 1, 0, 1, 1), 0, 1);
        market("999 thousandths", sold(999, 1, 0, 1, 1), 0, 0);
        market("1999 thousandths", sold(1999, 1, 0, 1, 1), 0, 1);
        market("cut each WEEK", sold(999, 1, 0, 1, 20), 0, 0);
        market("the most", sold(1000000, 200, 0, 1000, 1), 0, 200000000);
    }

    /** "each ROD": what is cut is cut of each by itself. */
    private static void p25_cutOfEachRod() {
        OneMeasure m = new OneMeasure();
        m.unit(0, 999, 0);
        m.rod(0, 0, -1, 0, 1);
        m.rod(0, 0, -1, 0, 1);
        m.rod(0, 0, 1, 0, 1);
        m.rod(0, 0, 1, 0, 1);
        m.weeks(1);
        market("two and two", m, 0, 0);
    }

    /** "Then it wears": it sells first as it was. */
    private static void p25_sellsThenWears() {
        market("first WEEK", sold(1000, 1, 1, 1, 1), 0, 1);
        market("then it is true", sold(1000, 1, 1, 1, 2), 0, 1);
        market("then short", sold(1000, 1, 1, 1, 3), 1, 1);
        market("and shorter", sold(1000, 1, 1, 1, 4), 3, 1);
    }

    /** "off less WEAR, not below -500" */
    private static void p25_shortest() {
        due("-480", sold(1000, -200, 20, 1, 14).rodTold(0, OFF), -480);
        due("-500", sold(1000, -200, 20, 1, 15).rodTold(0, OFF), -500);
        due("not -520", sold(1000, -200, 20, 1, 16).rodTold(0, OFF), -500);
        due("-494", sold(1000, -200, 7, 1, 42).rodTold(0, OFF), -494);
        due("not -501", sold(1000, -200, 7, 1, 43).rodTold(0, OFF), -500);
        due("in the end", sold(1000, 200, 20, 1, 100).rodTold(0, OFF), -500);
        due("never so short", sold(1000, 200, 0, 1, 100).rodTold(0, OFF), 200);
        market("it sells so", sold(1000, -200, 20, 1, 17), 200 * 15 + 20 * 105 + 2 * 500, 0);
    }

    /** "where they are that WEEK (PLAN)" */
    private static void p25_whereTheyAre() {
        OneMeasure m = Edges.units(0, 1);
        m.rod(0, 0, -100, 0, 1);
        m.rod(0, 1, 0, 0, 1);
        m.weeks(1);
        due("nobody: not seized", m.rodTold(0, SEIZED), 0);
        due("nobody: not sealed", m.rodTold(1, SEALED), 0);
        m.plan(0, 60);
        m.weeks(1);
        due("elsewhere: not seized", m.rodTold(0, SEIZED), 0);
        due("elsewhere: not sealed", m.rodTold(1, SEALED), 0);
        m.plan(0, 3);
        m.weeks(1);
        due("there: seized", m.rodTold(0, SEIZED), 1);
        due("there: not sealed", m.rodTold(0, SEALED), 0);
        due("there: sealed", m.rodTold(1, SEALED), 1);
        due("there: not seized", m.rodTold(1, SEIZED), 0);
        m.weeks(1);
        due("it stays sealed", m.rodTold(1, SEALED), 1);
        due("one", m.count(9), 1);
    }

    /** "Then INSPECTORS": behind the sales and the wear. */
    private static void p25_behindTheWear() {
        OneMeasure m = Edges.units(0, 1);
        m.rod(0, 0, -20, 1, 1);
        m.rod(0, 0, 21, 1, 1);
        m.rod(0, 0, 22, 1, 1);
        m.rod(0, 0, -19, 1, 1);
        m.plan(0, 1);
        m.weeks(1);
        int[] seized = {1, 0, 1, 0};
        for (int rod = 0; rod < 4; rod++) due("rod " + rod, m.rodTold(rod, SEIZED), seized[rod]);
        market("all have sold", m, 39, 43);
    }

    /** Whether a true rod of unit 0 in DISTRICT 0 is SEIZED in that WEEK. */
    private static long seizedIn(int week, String text) {
        OneMeasure m = Edges.decree(Edges.units(0, 2), text);
        for (int left = week; left > 0; left -= 20) m.weeks(Math.min(20, left));
        m.rod(0, 0, 0, 0, 1);
        m.plan(0, 1);
        m.weeks(1);
        due("sealed, if not seized", m.rodTold(0, SEALED), 1 - m.rodTold(0, SEIZED));
        return m.rodTold(0, SEIZED);
    }

    /** "whose unit is not LET there on that DAY (7 times the WEEK, from 0)" */
    private static void p25_dayOfTheWeek() {
        due("WEEK 0, DAY 0", seizedIn(0, "b0,0,0,0;"), 1);
        due("WEEK 0, DAY 1", seizedIn(0, "b0,0,1,9999;"), 0);
        due("WEEK 1, DAY 7", seizedIn(1, "b0,0,7,7;"), 1);
        due("WEEK 1, DAYS 6 and 8", seizedIn(1, "b0,0,0,6;b0,0,8,9999;"), 0);
        due("WEEK 99, DAY 693", seizedIn(99, "b0,0,693,693;"), 1);
        due("WEEK 99, DAYS 692 and 694", seizedIn(99, "b0,0,0,692;b0,0,694,9999;"), 0);
        due("another unit", seizedIn(0, "b1,0,0,9999;"), 0);
        due("another DISTRICT", seizedIn(0, "b0,1,0,9999;"), 0);
        due("let again", seizedIn(0, "b0,0,0,9999;a0,0,0,0;"), 0);
    }

    /** "each ROD in hand": a SEIZED one neither sells nor wears, nor is it SEALED. */
    private static void p25_seizedForGood() {
        OneMeasure m = sold(1000, -30, 1, 1, 0);
        m.plan(0, 1);
        m.plan(1, 1);
        m.weeks(1);
        m.allowed(200);
        m.weeks(5);
        market("sold once", m, 30, 0);
        due("worn once", m.rodTold(0, OFF), -31);
        due("seized", m.rodTold(0, SEIZED), 1);
        due("not sealed", m.rodTold(0, SEALED), 0);
        due("one", m.count(9), 1);
    }

    /** "SEALED ones are off as others": they sell, wear and are SEIZED. */
    private static void p25_sealedAsOthers() {
        OneMeasure m = sold(1000, -19, 1, 1, 0);
        m.plan(0, 1);
        m.plan(1, 1);
        m.weeks(1);
        due("sealed", m.rodTold(0, SEALED), 1);
        due("not seized", m.rodTold(0, SEIZED), 0);
        m.weeks(1);
        market("it sells", m, 39, 0);
        due("it wears", m.rodTold(0, OFF), -21);
        due("it is seized", m.rodTold(0, SEIZED), 1);
    }

    // ---- promise 26

    /** "BAD answers -10000." */
    private static void p26_rod() {
        Edges.edges("rod, of 4", Edges::told, ROD_BAD, 0, -32, 3, -100, (m, rod) -> m.rodTold(rod, OFF));
        Edges.edges("rod, of 12", () -> rods(12), ROD_BAD, 0, -32, 11, -11, (m, rod) -> m.rodTold(rod, OFF));
        Edges.refused("of none", OneMeasure::new, ROD_BAD, m -> m.rodTold(0, OFF));
    }

    /** "off (0), 1 SEALED (1), 1 SEIZED (2), SINCE when it is FALSE (3" */
    private static void p26_what() {
        Edges.edges("what", Edges::told, ROD_BAD, 0, -32, 3, 0, (m, what) -> m.rodTold(0, what));
        Edges.edges("what, of a new one", Edges::told, ROD_BAD, 0, -100, 3, NEVER, (m, what) -> m.rodTold(3, what));
    }

    /** "(1 at least)": a ROD that sells nothing is never FALSE. */
    private static void p26_soldOneAtLeast() {
        due("sells none", sold(1000, -200, 0, 0, 5).rodTold(0, SINCE), NEVER);
        due("sells one", sold(1000, -200, 0, 1, 5).rodTold(0, SINCE), 0);
        due("has not sold yet", sold(1000, -200, 0, 1, 0).rodTold(0, SINCE), NEVER);
    }

    /** "while off by more than ALLOWED" */
    private static void p26_offByMore() {
        due("short by 20", sold(1000, -20, 0, 1, 5).rodTold(0, SINCE), NEVER);
        due("short by 21", sold(1000, -21, 0, 1, 5).rodTold(0, SINCE), 0);
        due("long by 20", sold(1000, 20, 0, 1, 5).rodTold(0, SINCE), NEVER);
        due("long by 21", sold(1000, 21, 0, 1, 5).rodTold(0, SINCE), 0);
        due("long by 21, then less", sold(1000, 21, 1, 1, 5).rodTold(0, SINCE), 0);
    }

    /** "the first WEEK in which it sold": not the one behind which it is worn so far. */
    private static void p26_firstWeek() {
        due("worn to -21, not sold so", sold(1000, -20, 1, 1, 1).rodTold(0, SINCE), NEVER);
        due("sold at -21", sold(1000, -20, 1, 1, 2).rodTold(0, SINCE), 1);
        due("and later", sold(1000, -20, 1, 1, 20).rodTold(0, SINCE), 1);
        OneMeasure m = sold(1000, 0, 0, 1, 99);
        m.rod(0, 0, 21, 0, 1);
        due("not before it sells", m.rodTold(1, SINCE), NEVER);
        m.weeks(1);
        due("WEEK 99", m.rodTold(1, SINCE), 99);
        due("the true one", m.rodTold(0, SINCE), NEVER);
        OneMeasure late = sold(1000, -102, 1, 1, 100);
        late.allowed(200);
        due("sold at -201 in WEEK 99", late.rodTold(0, SINCE), 99);
        late = sold(1000, -101, 1, 1, 100);
        late.allowed(200);
        due("worn to -201 behind WEEK 99", late.rodTold(0, SINCE), NEVER);
    }

    /** "ALLOWED as it is now" */
    private static void p26_allowedNow() {
        OneMeasure m = sold(1000, 3, 1, 1, 10);
        int[] allowed = {0, 1, 2, 3, 4, 5, 6, 200};
        long[] since = {0, 0, 0, 7, 8, 9, NEVER, NEVER};
        for (int i = 0; i < 8; i++) {
            m.allowed(allowed[i]);
            due("allowed " + allowed[i], m.rodTold(0, SINCE), since[i]);
        }
        m.allowed(201);
        due("a refused one does not count", m.rodTold(0, SINCE), NEVER);
    }

    /** A SEIZED one sells no more. */
    private static void p26_seized() {
        OneMeasure m = sold(1000, -15, 5, 1, 0);
        m.plan(1, 1);
        m.weeks(5);
        due("seized at -25 behind its sale at -20", m.rodTold(0, SEIZED), 1);
        due("off", m.rodTold(0, OFF), -25);
        due("never sold so", m.rodTold(0, SINCE), NEVER);
        m.allowed(19);
        due("by less allowed", m.rodTold(0, SINCE), 1);
    }

    /** Asking changes nothing. */
    private static void p26_asking() {
        Edges.asked("since", Edges::told, 0, m -> m.rodTold(0, SINCE));
    }

    // ---- promise 27

    private static OneMeasure atBothEnds() {
        OneMeasure m = Edges.units(0, 1);
        m.rod(0, 0, -10, 0, 1);
        m.rod(0, 5, -20, 0, 1);
        m.rod(0, 0, 30, 0, 1);
        m.rod(0, 5, 40, 0, 1);
        m.weeks(1);
        return m;
    }

    /** "of a DISTRICT" */
    private static void p27_district() {
        Edges.edges("district, cheated", RodsEdgeTest::atBothEnds, BAD, 0, 10, 5, 20, (m, d) -> m.cheated(d, 0));
        Edges.edges("district, won", RodsEdgeTest::atBothEnds, BAD, 0, 30, 5, 40, (m, d) -> m.cheated(d, 1));
    }

    /** "CHEATED (what = 0), WON (1)" */
    private static void p27_what() {
        Edges.edges("what", RodsEdgeTest::atBothEnds, BAD, 0, 20, 1, 40, (m, what) -> m.cheated(5, what));
    }

    /** What is WON is not taken from what is CHEATED, and other DISTRICTS have nothing. */
    private static void p27_byThemselves() {
        OneMeasure m = atBothEnds();
        for (int d = 1; d < 5; d++) {
            due("cheated in " + d, m.cheated(d, 0), 0);
            due("won in " + d, m.cheated(d, 1), 0);
        }
        m.weeks(2);
        market("three WEEKS", m, 30, 90);
    }

    /** The most that all RODS and WEEKS can bring together. */
    private static void p27_most() {
        OneMeasure m = new OneMeasure();
        m.unit(0, 1000000, 0);
        for (int i = 0; i < 12; i++) m.rod(0, 0, -200, 20, 1000);
        for (int i = 0; i < 5; i++) m.weeks(20);
        long one = 0;
        for (int week = 0; week < 100; week++) one += 1000000L * Math.min(500, 200 + 20 * week);
        market("the most", m, 12 * one, 0);
    }

    // ---- promise 28

    /** Rods in DISTRICTS 0, 2 and 5 that cheat by 300 a WEEK each; THE PLAN sends INSPECTORS nowhere near. */
    private static OneMeasure threeFalse() {
        OneMeasure m = Edges.units(0, 1);
        int[] districts = {5, 2, 0};
        for (int d : districts) m.rod(0, d, -30, 0, 10);
        m.plan(0, 2);
        return m;
    }

    /** "w WEEKS (1 to 4)" */
    private static void p28_weeks() {
        Edges.edges("w", RodsEdgeTest::threeFalse, BAD, 1, 900, 4, 900 + 600 + 300, (m, w) -> m.rounds(w, 1, -1));
        due("w 2", threeFalse().rounds(2, 1, -1), 900 + 600);
        due("w 3", threeFalse().rounds(3, 1, -1), 900 + 600 + 300);
    }

    /** "k DISTRICTS a WEEK at most (1 or 2)" */
    private static void p28_districts() {
        Edges.edges("k", RodsEdgeTest::threeFalse, BAD, 1, 900 + 600 + 300, 2, 900 + 300, (m, k) -> m.rounds(4, k, -1));
    }

    /** "CHEATED in these (i = -1), the set of WEEK i" */
    private static void p28_which() {
        long[] all = {0, 900, 1500, 1800, 1800};
        for (int w = 1; w <= 4; w++) {
            int weeks = w;
            Edges.edges("i of " + w, RodsEdgeTest::threeFalse, BAD, -1, all[w], w - 1, 0, (m, i) -> m.rounds(weeks, 1, i));
        }
    }

    private static void rounds(String name, OneMeasure m, int w, int k, long cheated, int... sets) {
        due(name + ", cheated", m.rounds(w, k, -1), cheated);
        for (int i = 0; i < w; i++) due(name + ", set " + i, m.rounds(w, k, i), sets[i]);
    }

    /** "of several the sets by bits, the first WEEK's first, the least" */
    private static void p28_leastSets() {
        rounds("one WEEK", threeFalse(), 1, 2, 900, 0);
        rounds("one each", threeFalse(), 2, 1, 1500, 1, 0);
        rounds("one each", threeFalse(), 3, 1, 1800, 1, 4, 0);
        rounds("one each", threeFalse(), 4, 1, 1800, 1, 4, 32, 0);
        rounds("two each", threeFalse(), 2, 2, 1200, 5, 0);
        rounds("two each", threeFalse(), 3, 2, 1200, 5, 32, 0);
        rounds("two each", threeFalse(), 4, 2, 1200, 5, 32, 0, 0);
    }

    /** "is least": the greater harm goes first, wherever it is. */
    private static void p28_leastCheated() {
        OneMeasure m = threeFalse();
        m.rod(0, 4, -31, 0, 10);
        rounds("one each", m, 3, 1, 1210 + 900 + 600, 16, 1, 0);
        rounds("two each", m, 2, 2, 1210 + 600, 17, 0);
    }

    /** No RODS, none in hand, none that is off: nothing is CHEATED, and nobody is sent. */
    private static void p28_nothingToFind() {
        for (int w = 1; w <= 4; w++) {
            for (int k = 1; k <= 2; k++) {
                rounds("no rods", new OneMeasure(), w, k, 0, 0, 0, 0, 0);
                rounds("a true rod", sold(1000, 0, 0, 10, 0), w, k, 0, 0, 0, 0, 0);
                rounds("a long rod", sold(1000, 200, 0, 10, 0), w, k, 0, 0, 0, 0, 0);
                rounds("a rod that sells nothing", sold(1000, -200, 0, 0, 0), w, k, 0, 0, 0, 0, 0);
                rounds("short by as much as is allowed", sold(1000, -20, 0, 10, 0), w, k, 200 * w, 0, 0, 0, 0);
                OneMeasure m = sold(1000, -30, 0, 10, 0);
                m.plan(0, 1);
                m.weeks(1);
                rounds("a seized rod", m, w, k, 0, 0, 0, 0, 0);
            }
        }
    }

    /** ALLOWED, and what is LET on the DAYS of WEEKS to come. */
    private static void p28_seizedWhen() {
        OneMeasure m = sold(1000, -21, 0, 10, 0);
        rounds("off by more", m, 2, 1, 210, 1, 0);
        m.allowed(21);
        rounds("not off by more", m, 2, 1, 420, 0, 0);
        m.allowed(20);
        OneMeasure worn = sold(1000, -20, 1, 10, 0);
        rounds("worn behind its sale", worn, 2, 1, 200, 1, 0);
        worn = sold(1000, -19, 1, 10, 0);
        rounds("worn so far behind the second sale", worn, 2, 1, 190 + 200, 0, 0);
        rounds("worn so far behind the second sale", worn, 3, 1, 190 + 200, 0, 1, 0);
        worn = sold(1000, -10, 1, 10, 9);
        rounds("worn before, too", worn, 3, 1, 190 + 200, 0, 1, 0);
        OneMeasure let = Edges.decree(sold(1000, -10, 0, 10, 0), "b0,0,7,7;b0,0,13,13;");
        rounds("not LET on DAY 7", let, 4, 1, 200, 0, 1, 0, 0);
        let.weeks(1);
        rounds("from now", let, 4, 1, 100, 1, 0, 0, 0);
        let.weeks(1);
        rounds("LET from DAY 14 on", let, 4, 1, 400, 0, 0, 0, 0);
        let = Edges.decree(sold(1000, -10, 0, 10, 5), "b0,0,49,49;");
        rounds("not LET on DAY 49, from WEEK 5 on", let, 4, 1, 300, 0, 0, 1, 0);
    }

    /** Each DISTRICT by its own RODS. */
    private static void p28_eachByItself() {
        for (int d = 0; d < 6; d++) {
            OneMeasure m = Edges.units(0, 1);
            m.rod(0, d, -30, 0, 10);
            rounds("in " + d + " alone", m, 2, 1, 300, 1 << d, 0);
            m.rod(0, (d + 1) % 6, -20, 0, 1000);
            rounds("in " + d + ", beside much that is allowed", m, 2, 1, 40000 + 300, 1 << d, 0);
        }
    }

    /** "(tried from now)": nothing changes, and THE PLAN is not asked. */
    private static void p28_tried() {
        Edges.asked("told", Edges::told, 20 * 700 * 100 / 1000, m -> m.rounds(1, 1, -1));
        Edges.asked("three", RodsEdgeTest::threeFalse, 1200, m -> m.rounds(4, 2, -1));
        Edges.asked("three, a set", RodsEdgeTest::threeFalse, 32, m -> m.rounds(4, 1, 2));
        OneMeasure m = threeFalse();
        m.plan(0, 63);
        rounds("THE PLAN is not asked", m, 2, 1, 1500, 1, 0);
    }

    /** What was CHEATED before does not count: "in these w WEEKS". */
    private static void p28_inTheseWeeks() {
        OneMeasure m = threeFalse();
        m.weeks(20);
        rounds("behind 20 WEEKS", m, 2, 1, 1500, 1, 0);
        for (int i = 0; i < 4; i++) m.weeks(20);
        rounds("behind 100 WEEKS", m, 4, 1, 1800, 1, 4, 32, 0);
    }

    /** "not below -500" in what is tried, too. */
    private static void p28_shortest() {
        OneMeasure m = Edges.units(0, 1);
        for (int d = 0; d < 3; d++) m.rod(0, d, -200, 20, 1);
        m.weeks(14);
        due("off", m.rodTold(2, OFF), -480);
        rounds("-480, -500, -500", m, 4, 1, 3 * 480 + 2 * 500 + 500, 1, 2, 4, 0);
    }
}
