/** The edges that the document names for papers: promises 19 to 21. */
public final class PapersEdgeTest {
    private static final long BAD = Edges.BAD, FULL = Edges.FULL, NONE = Edges.NONE;
    private static final long GAINED_BAD = -1000000000000000L, GAINED_NONE = -1000000000000004L;
    private static final int HEAPED = 0, STRUCK = 1, SILENT = 2;

    public static void main(String[] args) {
        Edges.run(PapersEdgeTest.class, 19, 21);
    }

    private static void due(String what, long got, long want) {
        Edges.due(what, got, want);
    }

    // ---- promise 19

    /** "DISTRICTS 0 to 5" */
    private static void p19_district() {
        Edges.edges("district", Edges::told, BAD, 0, 2, 5, 2, (m, d) -> m.paper(d, 1, 1, 1, 1));
    }

    /** "WORDS 0 to 9" */
    private static void p19_word() {
        Edges.edges("word", Edges::told, BAD, 0, 2, 9, 2, (m, word) -> m.paper(1, word, 1, 1, 1));
    }

    /** "DAYS are 0 to 9999" */
    private static void p19_day() {
        Edges.edges("day", Edges::told, BAD, 0, 2, 9999, 2, (m, day) -> m.paper(1, 1, day, 1, 1));
    }

    /** "an amount (1 to 1000000)" */
    private static void p19_amount() {
        Edges.edges("amount", Edges::told, BAD, 1, 2, 1000000, 2, (m, amount) -> m.paper(1, 1, 1, amount, 1));
    }

    /** "reading 0 heaped, 1 struck, 2 silent" */
    private static void p19_reading() {
        Edges.edges("reading", Edges::told, BAD, 0, 2, 2, 2, (m, reading) -> m.paper(1, 1, 1, 1, reading));
    }

    private static OneMeasure papers(int n) {
        OneMeasure m = Edges.told();
        for (int i = 2; i < n; i++) m.paper(1, 0, 9, 1000, SILENT);
        return m;
    }

    /** "PAPERS 0 to 9 as they come" */
    private static void p19_numbersAsTheyCome() {
        OneMeasure m = new OneMeasure();
        for (int i = 0; i < 10; i++) {
            due("told till now", m.count(6), i);
            due("paper", m.paper(5, 9, 9999, 1000000, 2), i);
        }
        due("told in all", m.count(6), 10);
    }

    /** "FULL: 10." */
    private static void p19_full() {
        due("the 10th", papers(9).paper(0, 0, 0, 1, 0), 9);
        Edges.refused("the 11th", () -> papers(10), FULL, m -> m.paper(0, 0, 0, 1, 0));
    }

    /** "Of several the first" */
    private static void p19_badBeforeFull() {
        Edges.refused("district", () -> papers(10), BAD, m -> m.paper(6, 0, 0, 1, 0));
        Edges.refused("word", () -> papers(10), BAD, m -> m.paper(0, 10, 0, 1, 0));
        Edges.refused("day", () -> papers(10), BAD, m -> m.paper(0, 0, 10000, 1, 0));
        Edges.refused("amount", () -> papers(10), BAD, m -> m.paper(0, 0, 0, 0, 0));
        Edges.refused("reading", () -> papers(10), BAD, m -> m.paper(0, 0, 0, 1, 3));
    }

    // ---- promise 20

    /** WORD 0 means a room of 1000 grains, heaped by half, in DISTRICT 0 from DAY 5 on; a paper of each reading. */
    private static OneMeasure rented(String more) {
        OneMeasure m = Edges.decreed("n0,0,0,5;" + more);
        m.unit(1, 1000, 50);
        m.unit(0, 300, 0);
        m.unit(1, 4000, 25);
        m.paper(0, 0, 7, 1000, HEAPED);
        m.paper(0, 0, 7, 1000, STRUCK);
        m.paper(0, 0, 7, 1000, SILENT);
        return m;
    }

    private static OneMeasure rented() {
        return rented("");
    }

    /** "OWED by a PAPER": one that is told. */
    private static void p20_paper() {
        Edges.edges("paper", PapersEdgeTest::rented, BAD, 0, 1500, 2, 1000, (m, paper) -> m.owed(paper, 7, 0));
        Edges.edges("paper, of ten", () -> papers(10), BAD, 0, 500, 9, 500, (m, paper) -> m.owed(paper, 9, 0));
        Edges.refused("of none", OneMeasure::new, BAD, m -> m.owed(0, 7, 0));
    }

    /** "on a DAY (-1: its own)" */
    private static void p20_day() {
        Edges.edges("day", PapersEdgeTest::rented, BAD, -1, 1500, 9999, 1500, (m, day) -> m.owed(0, day, 0));
        due("day 0", rented().owed(0, 0, 0), NONE);
        Edges.edges("day, from 0 on", () -> rented("n0,1,0,0;"), BAD, -1, 300, 9999, 300, (m, day) -> m.owed(0, day, 0));
        due("day 0 of a word from day 0 on", rented("n0,1,0,0;").owed(0, 0, 0), 300);
    }

    /** "(-1: its own)" */
    private static void p20_itsOwnDay() {
        OneMeasure m = Edges.decreed("n0,0,0,5;n0,1,0,8;n0,2,0,9999;");
        for (int i = 0; i < 3; i++) m.unit(0, 1000 + i, 0);
        int[] days = {0, 4, 5, 7, 8, 9999};
        long[] most = {NONE, NONE, 1000, 1000, 1001, 1002};
        for (int day : days) m.paper(0, 0, day, 1000, STRUCK);
        for (int i = 0; i < 6; i++) due("its own day " + days[i], m.owed(i, -1, 1), most[i]);
    }

    /** "LEAST (what = 0), MOST (1)" */
    private static void p20_what() {
        Edges.edges("what", PapersEdgeTest::rented, BAD, 0, 1000, 1, 1500, (m, what) -> m.owed(2, 7, what));
    }

    /** "none, if WORD means nothing then" */
    private static void p20_meansNothing() {
        for (int what = 0; what < 2; what++) {
            int asked = what;
            Edges.refused("the day before", PapersEdgeTest::rented, NONE, m -> m.owed(0, 4, asked));
            Edges.refused("an empty text", () -> Edges.decree(rented(), ""), NONE, m -> m.owed(0, 9, asked));
            Edges.refused("another word", () -> Edges.decree(rented(), "n1,0,0,0;"), NONE, m -> m.owed(0, 9, asked));
            Edges.refused("another district", () -> Edges.decree(rented(), "n0,0,1,0;"), NONE, m -> m.owed(0, 9, asked));
        }
        due("the day itself", rented().owed(0, 5, 0), 1500);
    }

    /** "(of those there are)": units that are not told owe nothing. */
    private static void p20_unitsThereAre() {
        OneMeasure m = Edges.decree(rented(), "n0,2,0,0;n0,3,0,0;n0,15,0,0;");
        due("the last that is told", m.owed(1, 7, 0), 4000);
        due("the last that is told", m.owed(1, 7, 1), 4000);
        m.unit(0, 5, 0);
        due("one more is told", m.owed(1, 7, 0), 5);
        Edges.refused("none that is told", () -> Edges.decree(rented(), "n0,3,0,0;"), NONE, x -> x.owed(1, 7, 0));
        OneMeasure all = Edges.decree(Edges.units(0, 16), "n0,15,0,0;");
        all.paper(0, 0, 0, 1000, STRUCK);
        due("unit 15", all.owed(0, 0, 0), 1000);
    }

    /** "LET or not" */
    private static void p20_letOrNot() {
        OneMeasure m = rented("n0,1,0,5;b0,0,0,9999;b1,0,0,9999;");
        due("least", m.owed(1, 7, 0), 300);
        due("most", m.owed(1, 7, 1), 1000);
    }

    /** "BAD" goes before "NONE": "Of several the first" */
    private static void p20_badBeforeNone() {
        Edges.refused("paper", PapersEdgeTest::rented, BAD, m -> m.owed(3, 4, 0));
        Edges.refused("what", PapersEdgeTest::rented, BAD, m -> m.owed(0, 4, 2));
    }

    private static void owed(String name, OneMeasure m, int paper, int day, long least, long most) {
        due(name + ", least", m.owed(paper, day, 0), least);
        due(name + ", most", m.owed(paper, day, 1), most);
    }

    /** "silent: as h of the last ITEM that tells of D on that DAY; none: both" */
    private static void p20_silent() {
        OneMeasure m = rented("h0,1,20,29;h0,0,25,35;h0,1,35,35;h1,0,0,9999;");
        owed("the day before", m, 2, 19, 1000, 1500);
        owed("the first day heaped", m, 2, 20, 1500, 1500);
        owed("the last day heaped alone", m, 2, 24, 1500, 1500);
        owed("struck by the later ITEM", m, 2, 25, 1000, 1000);
        owed("the last day of both", m, 2, 29, 1000, 1000);
        owed("struck alone", m, 2, 34, 1000, 1000);
        owed("heaped by the last ITEM", m, 2, 35, 1500, 1500);
        owed("the day behind", m, 2, 36, 1000, 1500);
    }

    /** "the last ITEM that tells of D": be it the first of all or the last of all. */
    private static void p20_silentByFirstOrLastItem() {
        owed("the first of two", Edges.decree(rented(), "h0,1,0,9;n0,0,0,0;"), 2, 7, 1500, 1500);
        owed("the last of two", Edges.decree(rented(), "n0,0,0,0;h0,1,0,9;"), 2, 7, 1500, 1500);
        String many = "a0,0,0,0;".repeat(31);
        owed("the first of 33", Edges.decree(rented(), "h0,0,0,9;" + many + "n0,0,0,0;"), 2, 7, 1000, 1000);
        owed("the last of 33", Edges.decree(rented(), "n0,0,0,0;" + many + "h0,0,0,9;"), 2, 7, 1000, 1000);
        owed("none of 33", Edges.decree(rented(), "n0,0,0,0;" + many + "h0,0,0,6;"), 2, 7, 1000, 1500);
    }

    /** "reading 0 heaped, 1 struck": a paper that is not silent is not read by h. */
    private static void p20_notSilent() {
        OneMeasure m = rented("h0,1,20,29;h0,0,30,39;");
        int[] days = {7, 20, 30, 40};
        for (int day : days) {
            owed("heaped on " + day, m, 0, day, 1500, 1500);
            owed("struck on " + day, m, 1, day, 1000, 1000);
        }
    }

    /** "SORT 0: struck" */
    private static void p20_lengthIsStruck() {
        OneMeasure m = Edges.decree(rented(), "n0,1,0,0;h0,1,20,29;");
        owed("silent, both", m, 2, 7, 300, 300);
        owed("silent, heaped", m, 2, 20, 300, 300);
        owed("heaped", m, 0, 7, 300, 300);
        owed("struck", m, 1, 7, 300, 300);
    }

    /** "by each unit ... and each reading": LEAST and MOST over all of them. */
    private static void p20_overAll() {
        OneMeasure m = rented("n0,1,0,5;n0,2,0,6;");
        owed("two units", m, 2, 5, 300, 1500);
        owed("three units", m, 2, 6, 300, 5000);
        owed("three units, heaped", m, 0, 6, 300, 5000);
        owed("three units, struck", m, 1, 6, 300, 4000);
    }

    private static OneMeasure rent(int size, int heap, int amount) {
        OneMeasure m = Edges.decreed("n0,0,0,0;");
        m.unit(1, size, heap);
        m.paper(0, 0, 0, amount, HEAPED);
        m.paper(0, 0, 0, amount, STRUCK);
        return m;
    }

    /** "by 1000, cut, in grains" */
    private static void p20_cut() {
        due("999 thousandths", rent(1, 0, 999).owed(1, 0, 0), 0);
        due("1000 thousandths", rent(1, 0, 1000).owed(1, 0, 0), 1);
        due("1999 thousandths", rent(1, 0, 1999).owed(1, 0, 0), 1);
        due("the least", rent(1, 0, 1).owed(1, 0, 1), 0);
        due("the most, struck", rent(1000000, 100, 1000000).owed(1, 0, 1), 1000000000);
    }

    /** "heaped: and times (100 and HEAP) by 100, cut" */
    private static void p20_heapedCut() {
        due("HEAP 0 is as struck", rent(7, 0, 1000).owed(0, 0, 0), 7);
        due("HEAP 100 is twice", rent(7, 100, 1000).owed(0, 0, 0), 14);
        due("HEAP 1 of 99", rent(99, 1, 1000).owed(0, 0, 0), 99);
        due("HEAP 1 of 100", rent(100, 1, 1000).owed(0, 0, 0), 101);
        due("just below a grain", rent(3, 33, 250).owed(0, 0, 0), 0);
        due("just a grain", rent(3, 34, 250).owed(0, 0, 0), 1);
        due("the most", rent(1000000, 100, 1000000).owed(0, 0, 1), 2000000000);
    }

    // ---- promise 21

    /** "BAD answers -1000000000000000." */
    private static void p21_paper() {
        Edges.edges("paper", PapersEdgeTest::rented, GAINED_BAD, 0, 0, 2, 500, (m, paper) -> m.gained(paper, 7));
        Edges.refused("of none", OneMeasure::new, GAINED_BAD, m -> m.gained(0, 7));
    }

    /** "now being a DAY": 0 to 9999; -1 is none. */
    private static void p21_day() {
        Edges.edges("day", () -> rented("n0,1,0,0;"), GAINED_BAD, 0, 300 - 300, 9999, 1000 - 300, (m, day) -> m.gained(1, day));
    }

    /** "(NONE -1000000000000004.)": nothing is meant now. */
    private static void p21_nothingNow() {
        Edges.refused("the day before", PapersEdgeTest::rented, GAINED_NONE, m -> m.gained(0, 4));
        due("the day itself", rented().gained(0, 5), 0);
    }

    private static OneMeasure early() {
        OneMeasure m = rented();
        m.paper(0, 0, 4, 1000, STRUCK);
        m.paper(0, 0, 5, 1000, STRUCK);
        return m;
    }

    /** "(NONE -1000000000000004.)": nothing was meant on the paper's DAY. */
    private static void p21_nothingThen() {
        Edges.refused("then", PapersEdgeTest::early, GAINED_NONE, m -> m.gained(3, 7));
        Edges.refused("then and now", PapersEdgeTest::early, GAINED_NONE, m -> m.gained(3, 4));
        due("the first day on which it means something", early().gained(4, 7), 0);
        Edges.refused("an empty text", () -> Edges.decree(rented(), ""), GAINED_NONE, m -> m.gained(0, 7));
        Edges.refused("a unit that is not there", () -> Edges.decree(rented(), "n0,3,0,0;"), GAINED_NONE, m -> m.gained(0, 7));
    }

    /** "Of several the first" */
    private static void p21_badBeforeNone() {
        Edges.refused("paper", PapersEdgeTest::rented, GAINED_BAD, m -> m.gained(3, 4));
        Edges.refused("day", PapersEdgeTest::early, GAINED_BAD, m -> m.gained(3, 10000));
    }

    /** "MOST now less LEAST on the paper's DAY": above 0, 0, below 0. */
    private static void p21_mostLessLeast() {
        OneMeasure m = rented("h0,1,7,7;h0,0,8,8;n0,2,0,9;");
        due("heaped both times", m.gained(2, 7), 0);
        due("struck now, heaped then", m.gained(2, 8), -500);
        due("both now", m.gained(2, 6), 0);
        due("a greater unit now", m.gained(2, 9), 5000 - 1500);
        due("the same day, both readings", rented().gained(2, 7), 500);
    }
}
