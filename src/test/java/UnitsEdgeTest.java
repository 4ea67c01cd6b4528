/** The edges that the document names for units, tables, chains and trials: promises 1 to 10. */
public final class UnitsEdgeTest {
    private static final long BAD = Edges.BAD, NO = Edges.NO, FULL = Edges.FULL, NONE = Edges.NONE;
    private static final long LOST_BAD = -1000000000000L, LOST_NO = -1000000000002L;
    private static final long MILLION_MILLION = 1000000000000L;

    public static void main(String[] args) {
        Edges.run(UnitsEdgeTest.class, 1, 10);
    }

    private static void due(String what, long got, long want) {
        Edges.due(what, got, want);
    }

    // ---- promise 1

    /** "Nothing is told" */
    private static void p01_nothingIsCounted() {
        OneMeasure m = new OneMeasure();
        for (int what = 0; what <= 10; what++) due("count(" + what + ")", m.count(what), 0);
    }

    /** "Nothing is told": number 0 is none that is told. */
    private static void p01_nothingIsThereToAskOf() {
        OneMeasure m = new OneMeasure();
        due("table", m.table(0, 1, 1, 1, 0), BAD);
        due("turn", m.turn(0, 1, 0), BAD);
        due("lost", m.lost(0, 1, 0), LOST_BAD);
        due("trial", m.trial(0, 1, 1, 1, 0), BAD);
        due("span", m.span(0, 1, 1, 0), BAD);
        due("owed", m.owed(0, 0, 0), BAD);
        due("gained", m.gained(0, 0), -1000000000000000L);
        due("rod", m.rod(0, 0, 0, 0, 0), BAD);
        due("rodTold", m.rodTold(0, 0), -10000);
    }

    /** "Nothing is told" */
    private static void p01_nothingIsFound() {
        OneMeasure m = new OneMeasure();
        for (int i = -2; i <= 4; i++) due("best(" + i + ")", m.best(i), NONE);
        for (int what = 0; what <= 4; what++) due("earth(" + what + ", 0)", m.earth(what, 0), NONE);
        for (int i = -1; i < 4; i++) due("rounds(4, 2, " + i + ")", m.rounds(4, 2, i), 0);
        for (int d = 0; d < 6; d++) {
            due("cheated", m.cheated(d, 0), 0);
            due("won", m.cheated(d, 1), 0);
            for (int what = 0; what < 3; what++) due("uses(" + d + ", " + what + ")", m.uses(d, what), 0);
        }
        due("seasons", m.seasons(100), 0);
        due("back", m.back(), NO);
    }

    /** "20 at first", "none at first", "(0 at first)" */
    private static void p01_whatStandsAtFirst() {
        OneMeasure m = new OneMeasure();
        due("allowed", m.allowed(0), 20);
        for (int i = 0; i < 10; i++) due("plan " + i, m.plan(i, 63), 0);
        due("clear", m.clear(), 0);
    }

    /** "an empty TEXT is IN FORCE": so each unit is LET everywhere, and no WORD means anything. */
    private static void p01_anEmptyTextIsInForce() {
        OneMeasure m = new OneMeasure();
        due("fault", m.fault(), NONE);
        for (int unit = 0; unit < 16; unit++) {
            for (int d = 0; d < 6; d++) {
                int day = unit % 2 == 0 ? 0 : 9999;
                due("let", m.let(unit, d, day), 1);
                due("why", m.why(unit, d, day), NONE);
            }
            due("quarrels", m.quarrels(unit, 0, 0), 0);
            due("first quarrel", m.quarrels(unit, 5, 1), NONE);
        }
        for (int word = 0; word < 10; word++) {
            due("means", m.means(word, 0, 9999, 0), 0);
            due("sure", m.means(word, 5, 9999, 1), NONE);
        }
        due("force", m.force(), 0);
    }

    // ---- promise 2

    /** "a SORT (0 length, 1 room)" */
    private static void p02_sort() {
        Edges.edges("sort", Edges::told, BAD, 0, 4, 1, 4, (m, sort) -> m.unit(sort, 5, 0));
    }

    /** "a true SIZE (1 to 1000000 grains)" */
    private static void p02_size() {
        Edges.edges("size of a length", Edges::told, BAD, 1, 4, 1000000, 4, (m, size) -> m.unit(0, size, 0));
        Edges.edges("size of a room", Edges::told, BAD, 1, 4, 1000000, 4, (m, size) -> m.unit(1, size, 7));
    }

    /** "a true SIZE (1 to 1000000 grains)": both ends are held as they were told. */
    private static void p02_sizeIsHeld() {
        OneMeasure m = new OneMeasure();
        m.unit(0, 1, 0);
        m.unit(1, 1000000, 0);
        m.rod(0, 0, -1, 0, 1000);
        m.rod(1, 1, -1, 0, 1000);
        m.weeks(1);
        due("grains of 1000 units of 1, a thousandth short", m.cheated(0, 0), 1);
        due("grains of 1000 units of 1000000, a thousandth short", m.cheated(1, 0), 1000000);
    }

    /** "HEAP (0 to 100 hundredths; of SORT 1 alone" */
    private static void p02_heapOfRoom() {
        Edges.edges("heap of a room", Edges::told, BAD, 0, 4, 100, 4, (m, heap) -> m.unit(1, 5, heap));
    }

    /** "0 for SORT 0)" */
    private static void p02_heapOfLength() {
        Edges.edges("heap of a length", Edges::told, BAD, 0, 4, 0, 4, (m, heap) -> m.unit(0, 5, heap));
        Edges.refused("heap 100 of a length", Edges::told, BAD, m -> m.unit(0, 5, 100));
    }

    /** "HEAP (0 to 100 hundredths": both ends are held as they were told. */
    private static void p02_heapIsHeld() {
        OneMeasure m = Edges.decreed("n0,0,0,0;n1,1,0,0;");
        m.unit(1, 1000, 0);
        m.unit(1, 1000, 100);
        m.paper(0, 0, 0, 1000, 0);
        m.paper(0, 1, 0, 1000, 0);
        due("heaped by 0", m.owed(0, 0, 1), 1000);
        due("heaped by 100", m.owed(1, 0, 1), 2000);
    }

    /** "UNITS 0 to 15 as they come" */
    private static void p02_numbersAsTheyCome() {
        OneMeasure m = new OneMeasure();
        for (int i = 0; i < 16; i++) {
            due("told till now", m.count(0), i);
            due("unit", m.unit(i % 2, 1000, 0), i);
        }
        due("told in all", m.count(0), 16);
    }

    private static OneMeasure sixteenUnits() {
        OneMeasure m = Edges.told();
        for (int i = 4; i < 16; i++) m.unit(0, 10 + i, 0);
        return m;
    }

    private static OneMeasure fifteenUnits() {
        OneMeasure m = Edges.told();
        for (int i = 4; i < 15; i++) m.unit(0, 10 + i, 0);
        return m;
    }

    /** "FULL" */
    private static void p02_full() {
        due("the 16th", fifteenUnits().unit(0, 5, 0), 15);
        Edges.refused("the 17th", UnitsEdgeTest::sixteenUnits, FULL, m -> m.unit(0, 5, 0));
        Edges.refused("the 17th, a room", UnitsEdgeTest::sixteenUnits, FULL, m -> m.unit(1, 1000000, 100));
    }

    /** "Of several the first" */
    private static void p02_badBeforeFull() {
        Edges.refused("sort", UnitsEdgeTest::sixteenUnits, BAD, m -> m.unit(2, 5, 0));
        Edges.refused("size", UnitsEdgeTest::sixteenUnits, BAD, m -> m.unit(0, 0, 0));
        Edges.refused("heap", UnitsEdgeTest::sixteenUnits, BAD, m -> m.unit(0, 5, 1));
    }

    // ---- promise 3

    /** "UNITS 0 to 15": from and to are units that are told. */
    private static void p03_units() {
        Edges.edges("from, of 3", () -> Edges.units(0, 3), BAD, 0, 0, 2, 0, (m, from) -> m.table(from, 1, 1, 1, 0));
        Edges.edges("to, of 3", () -> Edges.units(1, 3), BAD, 0, 0, 2, 0, (m, to) -> m.table(1, to, 1, 1, 0));
        Edges.edges("from, of 16", () -> Edges.units(1, 16), BAD, 0, 0, 15, 0, (m, from) -> m.table(from, 7, 1, 1, 0));
        Edges.edges("to, of 16", () -> Edges.units(0, 16), BAD, 0, 0, 15, 0, (m, to) -> m.table(7, to, 1, 1, 0));
        Edges.refused("of one unit", () -> Edges.units(0, 1), BAD, m -> m.table(0, 1, 1, 1, 0));
        Edges.refused("of no unit", OneMeasure::new, BAD, m -> m.table(0, 1, 1, 1, 0));
    }

    /** "to another one of its SORT (unlike)" */
    private static void p03_toItself() {
        for (int u = 0; u < 4; u++) {
            int unit = u;
            Edges.refused("unit " + u, Edges::told, BAD, m -> m.table(unit, unit, 1, 1, 0));
        }
    }

    /** "p by q (1 to 10000 each)" */
    private static void p03_pAndQ() {
        Edges.edges("p", Edges::told, BAD, 1, 0, 10000, 0, (m, p) -> m.table(0, 1, p, 3, 3));
        Edges.edges("q", Edges::told, BAD, 1, 0, 10000, 0, (m, q) -> m.table(0, 1, 3, q, 3));
        Edges.edges("p of a new one", Edges::told, BAD, 1, 0, 10000, 0, (m, p) -> m.table(3, 2, p, 3, 3));
        Edges.edges("q of a new one", Edges::told, BAD, 1, 0, 10000, 0, (m, q) -> m.table(3, 2, 3, q, 3));
    }

    /** "figures d (0 to 3)" */
    private static void p03_figures() {
        Edges.edges("d", Edges::told, BAD, 0, 0, 3, 0, (m, d) -> m.table(0, 1, 3, 2, d));
    }

    /** "NO: SORTS are unlike" */
    private static void p03_sortsUnlike() {
        Edges.refused("length to room", Edges::told, NO, m -> m.table(0, 2, 1, 1, 0));
        Edges.refused("room to length", Edges::told, NO, m -> m.table(3, 1, 1, 1, 0));
        due("length to length", Edges.told().table(1, 0, 1, 1, 0), 0);
        due("room to room", Edges.told().table(3, 2, 1, 1, 0), 0);
    }

    /** "Of several the first" */
    private static void p03_badBeforeNo() {
        Edges.refused("p", Edges::told, BAD, m -> m.table(0, 2, 0, 1, 0));
        Edges.refused("q", Edges::told, BAD, m -> m.table(0, 2, 1, 10001, 0));
        Edges.refused("d", Edges::told, BAD, m -> m.table(2, 0, 1, 1, 4));
    }

    /** "Told anew it is otherwise." */
    private static void p03_toldAnew() {
        OneMeasure m = Edges.units(0, 2);
        m.table(0, 1, 10000, 1, 0);
        due("first", m.turn(0, 1, 7), 70000);
        due("told anew", m.table(0, 1, 1, 2, 3), 0);
        due("is otherwise", m.turn(0, 1, 7), 3);
        due("and still one", m.count(1), 1);
    }

    /** Every unit may have a TABLE to every other one. */
    private static void p03_asManyAsPairs() {
        OneMeasure m = Edges.units(0, 16);
        for (int from = 0; from < 16; from++) {
            for (int to = 0; to < 16; to++) {
                if (from != to) m.table(from, to, 1 + from, 1 + to, 3);
            }
        }
        due("tables", m.count(1), 240);
        due("the first", m.turn(0, 1, 1000), 500);
        due("the last", m.turn(15, 14, 15000), 16000);
        due("told anew", m.table(15, 14, 1, 1, 3), 0);
        due("still 240", m.count(1), 240);
    }

    // ---- promise 4

    private static OneMeasure star() {
        OneMeasure m = Edges.units(0, 3);
        m.table(0, 1, 2, 1, 3);
        m.table(2, 1, 3, 1, 3);
        m.table(1, 0, 4, 1, 3);
        m.table(1, 2, 5, 1, 3);
        return m;
    }

    /** A unit is one that is told. */
    private static void p04_units() {
        Edges.edges("from", UnitsEdgeTest::star, BAD, 0, 14, 2, 21, (m, from) -> m.turn(from, 1, 7));
        Edges.edges("to", UnitsEdgeTest::star, BAD, 0, 28, 2, 35, (m, to) -> m.turn(1, to, 7));
        Edges.refused("of no unit", OneMeasure::new, BAD, m -> m.turn(0, 1, 7));
    }

    /** "AMOUNTS are thousandths of a unit (0 to 1000000000)." */
    private static void p04_amount() {
        Edges.edges("x", Edges::told, BAD, 0, 0, 1000000000, 1111111111, (m, x) -> m.turn(0, 1, x));
    }

    private static long turned(int p, int q, int d, int x) {
        OneMeasure m = Edges.units(1, 2);
        m.table(1, 0, p, q, d);
        return m.turn(1, 0, x);
    }

    /** "x times p by q, cut" */
    private static void p04_cut() {
        due("2 by 3", turned(1, 3, 3, 2), 0);
        due("3 by 3", turned(1, 3, 3, 3), 1);
        due("5 by 3", turned(1, 3, 3, 5), 1);
        due("10 by 3", turned(2, 3, 3, 5), 3);
        due("9999 by 10000", turned(1, 10000, 3, 9999), 0);
        due("10000 by 10000", turned(1, 10000, 3, 10000), 1);
        due("the greatest", turned(10000, 1, 3, 1000000000), 10000000000000L);
        due("the greatest by the greatest", turned(10000, 10000, 3, 1000000000), 1000000000);
        due("the greatest by 9999", turned(9999, 10000, 3, 1000000000), 999900000);
    }

    /** "then cut to thousands, hundreds, tens, ones (d 0, 1, 2, 3)" */
    private static void p04_figures() {
        int[] grains = {1000, 100, 10, 1};
        for (int d = 0; d < 4; d++) {
            int grain = grains[d];
            due("d " + d + ", one less than a grain", turned(1, 1, d, grain - 1), 0);
            due("d " + d + ", a grain", turned(1, 1, d, grain), grain);
            due("d " + d + ", one less than two", turned(1, 1, d, 2 * grain - 1), grain);
            due("d " + d + ", two", turned(1, 1, d, 2 * grain), 2 * grain);
            due("d " + d + ", the fraction is cut first", turned(1, 3, d, 3 * grain - 1), 0);
        }
        due("d 0, much", turned(10000, 9999, 0, 999999999), 1000100000);
    }

    /** "NO: no TABLE" */
    private static void p04_noTable() {
        Edges.refused("never told", () -> Edges.units(0, 2), NO, m -> m.turn(0, 1, 5));
        Edges.refused("told the other way alone", Edges::told, NO, m -> m.turn(3, 2, 5));
        Edges.refused("of unlike sorts", Edges::told, NO, m -> m.turn(0, 2, 5));
        Edges.refused("to itself", Edges::told, NO, m -> m.turn(0, 0, 5));
        Edges.refused("refused before", () -> {
            OneMeasure m = Edges.units(0, 2);
            m.table(0, 1, 1, 0, 0);
            return m;
        }, NO, m -> m.turn(0, 1, 5));
    }

    /** "Of several the first" */
    private static void p04_badBeforeNo() {
        Edges.refused("x below", Edges::told, BAD, m -> m.turn(3, 2, -1));
        Edges.refused("x above", Edges::told, BAD, m -> m.turn(0, 0, 1000000001));
    }

    // ---- promise 5

    /** "BAD answers -1000000000000" */
    private static void p05_units() {
        Edges.edges("a", UnitsEdgeTest::star, LOST_BAD, 0, 7 - 56, 2, 7 - 105, (m, a) -> m.lost(a, 1, 7));
        Edges.edges("b", UnitsEdgeTest::star, LOST_BAD, 0, 7 - 56, 2, 7 - 105, (m, b) -> m.lost(1, b, 7));
        Edges.refused("of no unit", OneMeasure::new, LOST_BAD, m -> m.lost(0, 1, 7));
    }

    /** "AMOUNTS are thousandths of a unit (0 to 1000000000)." There 1111111111, back 999999999, cut to tens. */
    private static void p05_amount() {
        Edges.edges("x", Edges::told, LOST_BAD, 0, 0, 1000000000, 10, (m, x) -> m.lost(0, 1, x));
    }

    /** "x less what comes (below 0: won)" */
    private static void p05_lostAndWon() {
        OneMeasure m = Edges.units(0, 2);
        m.table(0, 1, 1, 2, 3);
        m.table(1, 0, 2, 1, 3);
        due("1: all is lost", m.lost(0, 1, 1), 1);
        due("2: nothing is lost", m.lost(0, 1, 2), 0);
        due("3: one is lost", m.lost(0, 1, 3), 1);
        due("the other way nothing is lost", m.lost(1, 0, 3), 0);
        m.table(1, 0, 3, 1, 3);
        due("one is won", m.lost(0, 1, 2), -1);
        m.table(0, 1, 10000, 1, 3);
        m.table(1, 0, 10000, 1, 3);
        due("the most that can be won", m.lost(0, 1, 1000000000), 1000000000L - 100000000000000000L);
    }

    /** "NO -1000000000002: a TABLE is not there" */
    private static void p05_aTableIsNotThere() {
        Edges.refused("neither", () -> Edges.units(0, 2), LOST_NO, m -> m.lost(0, 1, 5));
        Edges.refused("not back", Edges::told, LOST_NO, m -> m.lost(2, 3, 5));
        Edges.refused("not there", Edges::told, LOST_NO, m -> m.lost(3, 2, 5));
        Edges.refused("unlike sorts", Edges::told, LOST_NO, m -> m.lost(0, 2, 5));
        Edges.refused("itself", Edges::told, LOST_NO, m -> m.lost(1, 1, 5));
    }

    /** "Of several the first" */
    private static void p05_badBeforeNo() {
        Edges.refused("x below", Edges::told, LOST_BAD, m -> m.lost(2, 3, -1));
        Edges.refused("x above", Edges::told, LOST_BAD, m -> m.lost(2, 3, 1000000001));
    }

    // ---- promise 6

    /** Units 0 to n - 1 in a ring, each TABLE one by one but for the last, which doubles. */
    private static OneMeasure ring(int n) {
        OneMeasure m = Edges.units(0, 6);
        for (int i = 0; i + 1 < n; i++) m.table(i, i + 1, 1, 1, 3);
        m.table(n - 1, 0, 2, 1, 3);
        return m;
    }

    /** "a row of 2 to 4 unlike units" */
    private static void p06_twoToFour() {
        for (int n = 2; n <= 4; n++) {
            OneMeasure m = ring(n);
            due("amount by " + n, m.best(-1), 2000000);
            due("length by " + n, m.best(-2), n);
            for (int i = 0; i < n; i++) due("unit " + i + " of " + n, m.best(i), i);
        }
        for (int i = -2; i <= 5; i++) due("by 5, " + i, ring(5).best(i), NONE);
        for (int i = -2; i <= 5; i++) due("by 6, " + i, ring(6).best(i), NONE);
    }

    /** "unlike units": going round twice is no WAY ROUND. */
    private static void p06_unlike() {
        OneMeasure m = ring(2);
        m.table(2, 3, 1, 1, 3);
        m.table(3, 2, 3, 1, 3);
        due("amount", m.best(-1), 3000000);
        due("length", m.best(-2), 2);
        due("first", m.best(0), 2);
    }

    /** "unlike units": neither the first nor another one comes twice. Here two ways there and back meet in unit 1. */
    private static void p06_notThroughTheMiddleTwice() {
        OneMeasure m = Edges.units(0, 3);
        int[] ends = {0, 2};
        for (int end : ends) {
            m.table(end, 1, 2, 1, 3);
            m.table(1, end, 2, 1, 3);
        }
        due("amount", m.best(-1), 4000000);
        due("length", m.best(-2), 2);
        due("first", m.best(0), 0);
        due("second", m.best(1), 1);
    }

    /** "the i-th of them": below -2 is BAD, behind the last NONE. */
    private static void p06_whichUnit() {
        for (int n = 2; n <= 4; n++) {
            int length = n;
            int[] low = {-3, -4, Integer.MIN_VALUE};
            for (int i : low) Edges.refused("i " + i, () -> ring(length), BAD, m -> m.best(i));
            int[] high = {length, length + 1, 15, 16, Integer.MAX_VALUE};
            for (int i : high) Edges.refused("i " + i, () -> ring(length), NONE, m -> m.best(i));
        }
    }

    /** "NONE" and "Of several the first" */
    private static void p06_noWayRound() {
        int[] low = {-3, Integer.MIN_VALUE};
        int[] rest = {-2, -1, 0, 1, 3, 4, Integer.MAX_VALUE};
        Edges.Scene[] scenes = {OneMeasure::new, () -> Edges.units(0, 2), () -> ring(5), UnitsEdgeTest::thereAlone};
        for (Edges.Scene scene : scenes) {
            for (int i : low) Edges.refused("i " + i, scene, BAD, m -> m.best(i));
            for (int i : rest) Edges.refused("i " + i, scene, NONE, m -> m.best(i));
        }
    }

    private static OneMeasure thereAlone() {
        OneMeasure m = Edges.units(0, 2);
        m.table(0, 1, 1, 1, 3);
        return m;
    }

    /** "one by which there is more than 1000000000000 somewhere is none" */
    private static void p06_tooMuchAtTheEnd() {
        OneMeasure m = Edges.units(0, 2);
        m.table(0, 1, 1000, 1, 3);
        m.table(1, 0, 1000, 1, 3);
        due("a million million", m.best(-1), MILLION_MILLION);
        m.table(1, 0, 1001, 1, 3);
        due("more", m.best(-1), NONE);
        m = Edges.units(0, 3);
        m.table(0, 1, 8407, 11, 3);
        m.table(1, 2, 7732, 9, 3);
        m.table(2, 0, 6156, 4042, 3);
        due("from unit 0 it is one too much, from unit 1 it is not", m.best(-1), MILLION_MILLION - 243);
        due("from unit 1", m.best(0), 1);
    }

    /** "somewhere": on the way too, and whichever unit is the first. */
    private static void p06_tooMuchOnTheWay() {
        OneMeasure m = Edges.units(0, 3);
        m.table(0, 1, 10000, 1, 3);
        m.table(1, 2, 100, 1, 3);
        m.table(2, 0, 1, 10000, 3);
        due("a million million on the way", m.best(-1), 100000000);
        due("from unit 0", m.best(0), 0);
        m.table(1, 2, 101, 1, 3);
        due("more on the way from 0", m.best(-1), 101000000);
        due("from unit 1 it is never too much", m.best(0), 1);
        m.table(0, 1, 10000, 1, 3);
        m.table(1, 2, 10000, 1, 3);
        m.table(2, 0, 10000, 1, 3);
        due("too much from each", m.best(-1), NONE);
    }

    /** "TURNED" each time: a row that loses all is a WAY ROUND still. */
    private static void p06_nothingIsLeft() {
        OneMeasure m = Edges.units(0, 2);
        m.table(0, 1, 1, 10000, 0);
        m.table(1, 0, 1, 10000, 0);
        due("amount", m.best(-1), 0);
        due("length", m.best(-2), 2);
        due("first", m.best(0), 0);
        due("second", m.best(1), 1);
        due("third", m.best(2), NONE);
    }

    /** "that which ends with most, of several the shortest" */
    private static void p06_mostThenShortest() {
        OneMeasure m = Edges.units(0, 4);
        m.table(0, 1, 1, 1, 3);
        m.table(1, 2, 1, 1, 3);
        m.table(2, 0, 1, 1, 3);
        due("three alone", m.best(-2), 3);
        m.table(2, 3, 1, 1, 3);
        m.table(3, 2, 1, 1, 3);
        due("two of the same end go first", m.best(-2), 2);
        due("though their units are higher", m.best(0), 2);
        m.table(1, 2, 1001, 1000, 3);
        due("one that ends with more goes before", m.best(-2), 3);
        due("with more", m.best(-1), 1001000);
    }

    /** "then that whose units are lower, from the first on" */
    private static void p06_lowerUnits() {
        OneMeasure m = Edges.units(0, 6);
        m.table(4, 5, 1, 1, 3);
        m.table(5, 4, 1, 1, 3);
        due("4, 5", m.best(0), 4);
        m.table(3, 5, 1, 1, 3);
        m.table(5, 3, 1, 1, 3);
        due("3, 5", m.best(0), 3);
        due("3, 5", m.best(1), 5);
        m.table(3, 4, 1, 1, 3);
        m.table(4, 3, 1, 1, 3);
        due("3, 4", m.best(0), 3);
        due("3, 4", m.best(1), 4);
        m.table(3, 4, 1, 1, 0);
        due("another TABLE, the same end", m.best(1), 4);
    }

    /** "Told anew it is otherwise.": THE BEST too. */
    private static void p06_toldAnew() {
        OneMeasure m = ring(2);
        due("before", m.best(-1), 2000000);
        m.table(1, 0, 1, 2, 3);
        due("after", m.best(-1), 500000);
        m.table(1, 0, 0, 2, 3);
        due("a refused TABLE changes nothing", m.best(-1), 500000);
    }

    /** All sixteen units take part. */
    private static void p06_lastUnits() {
        OneMeasure m = Edges.units(1, 16);
        m.table(12, 15, 2, 1, 3);
        m.table(15, 14, 1, 1, 3);
        m.table(14, 13, 1, 1, 3);
        m.table(13, 12, 1, 1, 3);
        int[] row = {12, 15, 14, 13};
        for (int i = 0; i < 4; i++) due("unit " + i, m.best(i), row[i]);
        due("amount", m.best(-1), 2000000);
    }

    // ---- promise 7

    /** "of a party (0, 1)" */
    private static void p07_party() {
        Edges.edges("party", Edges::told, BAD, 0, 3, 1, 3, (m, party) -> m.chain(party, 5, 5));
    }

    /** "yards (1 to 1000000)" */
    private static void p07_yards() {
        Edges.edges("yards", Edges::told, BAD, 1, 3, 1000000, 3, (m, yards) -> m.chain(0, yards, 5));
    }

    /** "an angle (1 to 1000 parts)" */
    private static void p07_angle() {
        Edges.edges("angle", Edges::told, BAD, 1, 3, 1000, 3, (m, angle) -> m.chain(1, 5, angle));
    }

    private static OneMeasure chains(int n, int party) {
        OneMeasure m = Edges.units(0, 1);
        for (int i = 0; i < n; i++) m.chain(party < 2 ? party : i % 2, 10 + i, 1);
        return m;
    }

    /** "A CHAIN: how many." */
    private static void p07_howMany() {
        OneMeasure m = new OneMeasure();
        for (int i = 1; i <= 12; i++) due("chain", m.chain(i % 2, 1, 1), i);
        due("count", m.count(2), 12);
    }

    /** "FULL: 12." */
    private static void p07_full() {
        for (int party = 0; party <= 2; party++) {
            int of = party;
            due("the 12th", chains(11, of).chain(0, 5, 5), 12);
            Edges.refused("the 13th, of party 0", () -> chains(12, of), FULL, m -> m.chain(0, 5, 5));
            Edges.refused("the 13th, of party 1", () -> chains(12, of), FULL, m -> m.chain(1, 5, 5));
        }
    }

    /** "Of several the first" */
    private static void p07_badBeforeFull() {
        Edges.refused("party", () -> chains(12, 2), BAD, m -> m.chain(2, 5, 5));
        Edges.refused("yards", () -> chains(12, 2), BAD, m -> m.chain(0, 0, 5));
        Edges.refused("angle", () -> chains(12, 2), BAD, m -> m.chain(0, 5, 1001));
    }

    // ---- promise 8

    /** "THE GIRTH by a party (0, 1; 2: both), THE NEW by both (3), DOUBT (4)": 57100 by 3 and 57000 by 1. */
    private static void p08_what() {
        Edges.edges("what", Edges::told, BAD, 0, 2280000000L, 4, 113900, (m, what) -> m.earth(what, 0));
    }

    /** "above (part = 0), below (1)" */
    private static void p08_part() {
        Edges.edges("part", Edges::told, BAD, 0, 2284000000L, 1, 3, (m, part) -> m.earth(1, part));
    }

    /** "NONE: no CHAINS of it" */
    private static void p08_noChains() {
        for (int what = 0; what <= 4; what++) {
            for (int part = 0; part <= 1; part++) {
                int asked = what;
                int side = part;
                Edges.refused("none at all, what " + what, OneMeasure::new, NONE, m -> m.earth(asked, side));
            }
        }
        Edges.refused("none of party 0", () -> chains(1, 1), NONE, m -> m.earth(0, 0));
        Edges.refused("none of party 0, below", () -> chains(1, 1), NONE, m -> m.earth(0, 1));
        Edges.refused("none of party 1", () -> chains(12, 0), NONE, m -> m.earth(1, 0));
        for (int what = 1; what <= 4; what++) due("one of party 1, what " + what, chains(1, 1).earth(what, 0) < 0 ? 1 : 0, 0);
        due("one of party 0", chains(1, 0).earth(0, 0), 400000);
    }

    /** "Of several the first" */
    private static void p08_badBeforeNone() {
        Edges.refused("what", OneMeasure::new, BAD, m -> m.earth(5, 0));
        Edges.refused("what below", OneMeasure::new, BAD, m -> m.earth(-1, 0));
        Edges.refused("part", OneMeasure::new, BAD, m -> m.earth(0, 2));
        Edges.refused("part below", OneMeasure::new, BAD, m -> m.earth(4, -1));
    }

    private static void fraction(String name, OneMeasure m, int what, long above, long below) {
        due(name + ", above", m.earth(what, 0), above);
        due(name + ", below", m.earth(what, 1), below);
    }

    /** "all its yards times 40000 by all its angle parts: a fraction in lowest terms" */
    private static void p08_leastAndMost() {
        OneMeasure m = new OneMeasure();
        for (int i = 0; i < 12; i++) m.chain(0, 1000000, 1);
        fraction("the most", m, 0, 40000000000L, 1);
        fraction("the most by both", m, 2, 40000000000L, 1);
        fraction("the most, the new", m, 3, 1000, 1);
        fraction("all alike, no doubt", m, 4, 0, 1);
        m = new OneMeasure();
        for (int i = 0; i < 12; i++) m.chain(1, 1, 1000);
        fraction("the least", m, 1, 40, 1);
        fraction("the least, the new", m, 3, 1, 1000000);
        m = new OneMeasure();
        m.chain(0, 999999, 997);
        fraction("nothing to cancel", m, 0, 39999960000L, 997);
        fraction("nothing to cancel, the new", m, 3, 999999, 997000);
    }

    /** "by both: all yards, all parts": not the middle of the two. */
    private static void p08_both() {
        OneMeasure m = new OneMeasure();
        m.chain(0, 1, 1);
        m.chain(1, 1, 999);
        fraction("party 0", m, 0, 40000, 1);
        fraction("party 1", m, 1, 40000, 999);
        fraction("both", m, 2, 80, 1);
        fraction("the new", m, 3, 1, 500000);
    }

    /** "the greatest less the least of yards by angle over all CHAINS (lowest terms)" */
    private static void p08_doubt() {
        OneMeasure m = new OneMeasure();
        m.chain(0, 1, 2);
        fraction("one chain", m, 4, 0, 1);
        m.chain(1, 2, 4);
        fraction("alike by angle", m, 4, 0, 1);
        m.chain(1, 1, 3);
        fraction("1 by 2 less 1 by 3", m, 4, 1, 6);
        m.chain(0, 2, 3);
        fraction("2 by 3 less 1 by 3", m, 4, 1, 3);
        m.chain(0, 1, 1000);
        m.chain(0, 1000000, 1);
        fraction("the most there can be", m, 4, 999999999, 1000);
    }

    /** "the greatest less the least": whichever came first. */
    private static void p08_doubtInAnyOrder() {
        int[][] orders = {{1, 2, 4}, {1, 4, 2}, {2, 1, 4}, {2, 4, 1}, {4, 1, 2}, {4, 2, 1}};
        for (int[] yards : orders) {
            OneMeasure m = new OneMeasure();
            for (int y : yards) m.chain(0, y, 3);
            fraction("4 by 3 less 1 by 3", m, 4, 1, 1);
        }
    }

    // ---- promise 9

    /** "two units a, b": such as are told. */
    private static void p09_units() {
        Edges.edges("a", () -> Edges.units(0, 3), BAD, 0, 1, 2, 1, (m, a) -> m.trial(a, 1, 1, 1, 0));
        Edges.edges("b", () -> Edges.units(1, 3), BAD, 0, 1, 2, 1, (m, b) -> m.trial(1, b, 1, 1, 0));
        Edges.edges("b of 16", () -> Edges.units(1, 16), BAD, 0, 1, 15, 1, (m, b) -> m.trial(7, b, 1, 1, 0));
    }

    /** "x a against y b (1 to 10000 each)" */
    private static void p09_xAndY() {
        Edges.edges("x", Edges::told, BAD, 1, 3, 10000, 3, (m, x) -> m.trial(0, 1, x, 9, 50));
        Edges.edges("y", Edges::told, BAD, 1, 3, 10000, 3, (m, y) -> m.trial(0, 1, 9, y, 50));
    }

    /** "e (0 to 1000000 grains)" */
    private static void p09_error() {
        Edges.edges("e", Edges::told, BAD, 0, 3, 1000000, 3, (m, e) -> m.trial(0, 1, 9, 10, e));
    }

    /** "NO: SORTS are unlike, or a is b" */
    private static void p09_no() {
        Edges.refused("length against room", Edges::told, NO, m -> m.trial(0, 2, 1, 1, 0));
        Edges.refused("room against length", Edges::told, NO, m -> m.trial(3, 1, 1, 1, 0));
        Edges.refused("a is b, a length", Edges::told, NO, m -> m.trial(0, 0, 1, 1, 0));
        Edges.refused("a is b, a room", Edges::told, NO, m -> m.trial(3, 3, 1, 1, 0));
    }

    private static OneMeasure trials(int n) {
        OneMeasure m = Edges.units(0, 2);
        m.unit(1, 1000, 0);
        for (int i = 0; i < n; i++) m.trial(i % 2, 1 - i % 2, 1, 1, 100);
        return m;
    }

    /** "A TRIAL: how many." */
    private static void p09_howMany() {
        OneMeasure m = trials(0);
        for (int i = 1; i <= 30; i++) due("trial", m.trial(0, 1, 1, 1, 0), i);
        due("count", m.count(3), 30);
    }

    /** "FULL: 30." */
    private static void p09_full() {
        due("the 30th", trials(29).trial(0, 1, 1, 1, 0), 30);
        Edges.refused("the 31st", () -> trials(30), FULL, m -> m.trial(0, 1, 1, 1, 0));
    }

    /** "Of several the first" */
    private static void p09_order() {
        Edges.refused("BAD before NO, x", () -> trials(3), BAD, m -> m.trial(0, 0, 0, 1, 0));
        Edges.refused("BAD before NO, y", () -> trials(3), BAD, m -> m.trial(0, 2, 1, 10001, 0));
        Edges.refused("BAD before NO, e", () -> trials(3), BAD, m -> m.trial(2, 1, 1, 1, -1));
        Edges.refused("BAD before FULL, x", () -> trials(30), BAD, m -> m.trial(0, 1, 10001, 1, 0));
        Edges.refused("BAD before FULL, e", () -> trials(30), BAD, m -> m.trial(0, 1, 1, 1, 1000001));
        Edges.refused("BAD before FULL, a unit", () -> trials(30), BAD, m -> m.trial(0, 3, 1, 1, 0));
        Edges.refused("NO before FULL, sorts", () -> trials(30), NO, m -> m.trial(0, 2, 1, 1, 0));
        Edges.refused("NO before FULL, a is b", () -> trials(30), NO, m -> m.trial(1, 1, 1, 1, 0));
    }

    // ---- promise 10

    /** u and v are units that are told. */
    private static void p10_units() {
        Edges.edges("u", () -> Edges.units(0, 3), BAD, 0, 1, 2, 1, (m, u) -> m.span(u, 1, 5, 0));
        Edges.edges("v", () -> Edges.units(1, 3), BAD, 0, 1, 2, 1, (m, v) -> m.span(1, v, 5, 0));
    }

    /** "of told size s": a SIZE, 1 to 1000000. */
    private static void p10_size() {
        Edges.edges("s", () -> trialed(1, 1, 0), BAD, 1, 1, 1000000, 1000000, (m, s) -> m.span(0, 1, s, 0));
    }

    /** "the least (what = 0), the greatest (1), x and y of what PARTS most (2, 3)" */
    private static void p10_what() {
        Edges.edges("what", Edges::told, BAD, 0, 995, 3, 10, (m, what) -> m.span(0, 1, 900, what));
    }

    /** "NO likewise" */
    private static void p10_no() {
        Edges.refused("sorts are unlike", Edges::told, NO, m -> m.span(0, 2, 5, 0));
        Edges.refused("sorts are unlike", Edges::told, NO, m -> m.span(3, 1, 5, 3));
        Edges.refused("u is v", Edges::told, NO, m -> m.span(0, 0, 5, 0));
        Edges.refused("u is v", Edges::told, NO, m -> m.span(2, 2, 5, 3));
    }

    /** "Of several the first" */
    private static void p10_badBeforeNo() {
        Edges.refused("s", Edges::told, BAD, m -> m.span(0, 0, 0, 0));
        Edges.refused("what", Edges::told, BAD, m -> m.span(0, 2, 5, 4));
    }

    /** A TRIAL of unit 0 against unit 1. */
    private static OneMeasure trialed(int x, int y, int e) {
        OneMeasure m = Edges.units(0, 3);
        m.trial(0, 1, x, y, e);
        return m;
    }

    private static void span(String name, OneMeasure m, int s, long least, long greatest) {
        due(name + ", least", m.span(0, 1, s, 0), least);
        due(name + ", greatest", m.span(0, 1, s, 1), greatest);
    }

    /** "the least and the greatest whole size of u (1 to 1000000) that they let" */
    private static void p10_withoutTrials() {
        span("all sizes", Edges.units(0, 2), 1, 1, 1000000);
        span("all sizes", Edges.units(0, 2), 1000000, 1, 1000000);
    }

    /** "alike but for e" */
    private static void p10_error() {
        span("just alike", trialed(3, 1, 0), 300, 100, 100);
        span("but for e, at both ends", trialed(2, 3, 2), 6, 8, 10);
        span("but for one less", trialed(2, 3, 1), 6, 9, 9);
        span("between two sizes", trialed(2, 3, 1), 5, 7, 8);
        for (int what = 0; what < 4; what++) due("no whole size", trialed(2, 3, 0).span(0, 1, 5, what), NONE);
    }

    /** "(1 to 1000000)" */
    private static void p10_leastAndGreatestSize() {
        span("1 is a size", trialed(2, 1, 0), 2, 1, 1);
        span("0 is none", trialed(2, 1, 0), 1, NONE, NONE);
        span("from 1 on", trialed(1, 1, 1000000), 1, 1, 1000000);
        span("1000000 is a size", trialed(1, 2, 0), 500000, 1000000, 1000000);
        span("1000001 is none", trialed(1, 2, 1), 500001, NONE, NONE);
        span("just within e", trialed(1, 2, 2), 500001, 1000000, 1000000);
        span("below all sizes", trialed(10000, 1, 0), 9999, NONE, NONE);
        span("the greatest numbers", trialed(10000, 10000, 1000000), 1000000, 999900, 1000000);
        span("far above all sizes", trialed(1, 10000, 1000000), 1000000, NONE, NONE);
    }

    /** "from all TRIALS of u and v alone (either way about)" */
    private static void p10_eitherWayAbout() {
        OneMeasure m = Edges.units(0, 3);
        m.trial(1, 0, 3, 2, 2);
        span("told the other way about", m, 6, 8, 10);
        m.trial(0, 1, 1, 1, 3);
        span("and this way", m, 6, 8, 9);
        m.trial(0, 2, 1, 1, 0);
        m.trial(2, 0, 1, 1, 0);
        m.trial(1, 2, 1, 1, 0);
        m.trial(2, 1, 1, 1, 0);
        span("those of a third do not count", m, 6, 8, 9);
        m.trial(1, 0, 1, 1, 1);
        span("they quarrel", m, 6, NONE, NONE);
        due("nothing to part", m.span(0, 1, 6, 2), NONE);
        due("nothing to part", m.span(0, 1, 6, 3), NONE);
    }

    private static void parts(String name, OneMeasure m, int s, long x, long y) {
        due(name + ", x", m.span(0, 1, s, 2), x);
        due(name + ", y", m.span(0, 1, s, 3), y);
    }

    /** "of x, y 1 to 10" */
    private static void p10_partsOneToTen() {
        parts("all sizes beside 1: y would be more", Edges.units(0, 2), 1, 1, 10);
        parts("1 to 166 beside 1000: x would be more", trialed(6000, 1, 1000000), 1000, 10, 1);
        parts("1 beside 1", trialed(1, 1, 0), 1, 1, 1);
        parts("all sizes beside all: 500000 is the middle", Edges.units(0, 2), 1000000, 2, 1);
    }

    /** "(x first, then y lesser)" */
    private static void p10_partsTheLesser() {
        parts("one size: all pairs leave it", trialed(1, 1, 0), 700, 1, 1);
        parts("2 by 1, not 4 by 2", trialed(2, 1, 20), 50, 2, 1);
        parts("1 by 2, not 2 by 4", trialed(1, 2, 20), 50, 1, 2);
        parts("9 to 11 beside 9: one and two, not two and one", trialed(9, 10, 9), 9, 1, 1);
        parts("1000 beside 200: above all or not, it is one", trialed(1, 5, 0), 200, 1, 1);
        OneMeasure m = trialed(1, 5, 1);
        m.trial(0, 1, 399, 1997, 400);
        span("two trials", m, 200, 1000, 1001);
        parts("1000 and 1001 beside 200: none lies below 200", m, 200, 1, 5);
    }

    /** What was asked before leaves nothing behind. */
    private static void p10_askedAgain() {
        OneMeasure m = trialed(1, 1, 0);
        span("first", m, 700, 700, 700);
        span("of another size", m, 5, 5, 5);
        span("of a greater size", m, 800, 800, 800);
        due("of another unit, least", m.span(0, 2, 5, 0), 1);
        due("of another unit, greatest", m.span(0, 2, 5, 1), 1000000);
        parts("first", m, 700, 1, 1);
    }

    /** "x times u is above y times v, or not": as much is not above. Sizes 4 and 5 beside 4. */
    private static void p10_partsAtTheEdge() {
        OneMeasure m = trialed(8, 9, 4);
        span("two sizes", m, 4, 4, 5);
        parts("4 is not above 4", m, 4, 1, 1);
    }
}
