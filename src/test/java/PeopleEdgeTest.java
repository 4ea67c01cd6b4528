/** The edges that the document names for people, what is kept and what is counted: promises 29 to 34. */
public final class PeopleEdgeTest {
    private static final long BAD = Edges.BAD, NO = Edges.NO, FULL = Edges.FULL, NONE = Edges.NONE;
    private static final int OLD = 0, NEW = 1, TILL_HALF = 2;

    public static void main(String[] args) {
        Edges.run(PeopleEdgeTest.class, 29, 34);
    }

    private static void due(String what, long got, long want) {
        Edges.due(what, got, want);
    }

    private static OneMeasure people(int old, int young, int school, int trust) {
        OneMeasure m = new OneMeasure();
        due("people", m.people(0, old, young, school, trust), 0);
        return m;
    }

    private static void uses(String name, OneMeasure m, long old, long young) {
        due(name + ", old", m.uses(0, OLD), old);
        due(name + ", new", m.uses(0, NEW), young);
    }

    // ---- promise 29

    /** "DISTRICTS 0 to 5" */
    private static void p29_district() {
        Edges.edges("district", Edges::told, BAD, 0, 0, 5, 0, (m, d) -> m.people(d, 7, 8, 9, 10));
    }

    /** "PEOPLE of each DISTRICT (0 to 100000)": one kind alone. */
    private static void p29_oldOrNew() {
        Edges.edges("old", Edges::told, BAD, 0, 0, 100000, 0, (m, old) -> m.people(1, old, 0, 1, 1));
        Edges.edges("new", Edges::told, BAD, 0, 0, 100000, 0, (m, young) -> m.people(1, 0, young, 1, 1));
        uses("all old", people(100000, 0, 0, 0), 100000, 0);
        uses("all new", people(0, 100000, 0, 0), 0, 100000);
        uses("nobody", people(0, 0, 0, 0), 0, 0);
    }

    /** "BAD (old and new 100000 together at most)" */
    private static void p29_together() {
        Edges.edges("old beside 1", Edges::told, BAD, 0, 0, 99999, 0, (m, old) -> m.people(4, old, 1, 1, 1));
        Edges.edges("new beside 1", Edges::told, BAD, 0, 0, 99999, 0, (m, young) -> m.people(4, 1, young, 1, 1));
        Edges.edges("new beside 60000", Edges::told, BAD, 0, 0, 40000, 0, (m, young) -> m.people(4, 60000, young, 1, 1));
        Edges.refused("both at most", Edges::told, BAD, m -> m.people(1, 100000, 100000, 1, 1));
        Edges.refused("a sum that wraps round", Edges::told, BAD, m -> m.people(1, Integer.MAX_VALUE, Integer.MAX_VALUE, 1, 1));
        Edges.refused("a sum that wraps round to 0", Edges::told, BAD, m -> m.people(1, Integer.MIN_VALUE, Integer.MIN_VALUE, 1, 1));
        Edges.refused("one below 0, the sum is not", Edges::told, BAD, m -> m.people(1, -1, 5, 1, 1));
        Edges.refused("one below 0, the other too great", Edges::told, BAD, m -> m.people(1, 100001, -1, 1, 1));
    }

    /** "SCHOOL 0 to 500, TRUST 0 to 500" */
    private static void p29_schoolAndTrust() {
        Edges.edges("school", Edges::told, BAD, 0, 0, 500, 0, (m, school) -> m.people(1, 7, 8, school, 10));
        Edges.edges("trust", Edges::told, BAD, 0, 0, 500, 0, (m, trust) -> m.people(1, 7, 8, 9, trust));
        due("school alone", people(1000, 0, 500, 0).seasons(1), 500);
        due("trust alone", people(1000, 0, 0, 500).seasons(1), 500);
        due("both", people(1000, 0, 500, 500).seasons(1), 1000);
        due("neither", people(1000, 0, 0, 0).seasons(1), 0);
    }

    /** Told anew they are otherwise, and no other DISTRICT is. */
    private static void p29_toldAnew() {
        OneMeasure m = people(10, 20, 500, 500);
        m.people(5, 30, 40, 0, 0);
        m.people(0, 11, 21, 0, 0);
        uses("told anew", m, 11, 21);
        due("the other", m.uses(5, OLD), 30);
        due("the other", m.uses(5, NEW), 40);
        due("school and trust too", m.seasons(1), 21 + 40);
    }

    // ---- promise 30

    /** What one SEASON makes of the new, as the document tells it. */
    private static int[] season(int[] folk, int rate) {
        int learn = folk[0] * rate / 1000;
        int old = folk[0] - learn;
        int young = folk[1] + learn;
        int forget = young < old ? young * 5 / 1000 : 0;
        return new int[] {old + forget, young - forget};
    }

    private static int newAfter(int old, int young, int rate, int seasons) {
        int[] folk = {old, young};
        for (int i = 0; i < seasons; i++) folk = season(folk, rate);
        return folk[1];
    }

    /** "n SEASONS (1 to 100)": told() has 2000, 300 by 27 and 4500, 4500 by 100. */
    private static void p30_howMany() {
        long one = newAfter(2000, 300, 27, 1) + newAfter(4500, 4500, 100, 1);
        long hundred = newAfter(2000, 300, 27, 100) + newAfter(4500, 4500, 100, 100);
        Edges.edges("n", Edges::told, BAD, 1, one, 100, hundred, (m, n) -> m.seasons(n));
        due("one", one, 353 + 4950);
    }

    /** "how many use the new in all DISTRICTS" */
    private static void p30_all() {
        due("nobody", new OneMeasure().seasons(1), 0);
        OneMeasure m = new OneMeasure();
        for (int d = 0; d < 6; d++) m.people(d, 0, 100000, 0, 0);
        due("the most", m.seasons(100), 600000);
        for (int d = 0; d < 6; d++) m.people(d, 1000, 1 << d, 0, 0);
        due("of each", m.seasons(1), 63);
    }

    /** "(old times (SCHOOL and TRUST) by 1000, cut) go to the new" */
    private static void p30_learn() {
        due("999 by 1", people(999, 0, 1, 0).seasons(1), 0);
        due("1000 by 1", people(1000, 0, 1, 0).seasons(1), 1);
        due("1999 by 1", people(1999, 0, 0, 1).seasons(1), 1);
        due("2000 by 1", people(2000, 0, 0, 1).seasons(1), 2);
        due("1 by 999", people(1, 0, 500, 499).seasons(1), 0);
        due("1 by 1000", people(1, 0, 500, 500).seasons(1), 1);
        due("500 by 1 and 1", people(500, 0, 1, 1).seasons(1), 1);
        due("the most", people(100000, 0, 500, 500).seasons(1), 100000);
        due("the most but one", people(100000, 0, 500, 499).seasons(1), 99900);
    }

    /** "new times 5 by 1000, cut, go back" */
    private static void p30_forget() {
        uses("199", after(people(1000, 199, 0, 0), 1), 1000, 199);
        uses("200", after(people(1000, 200, 0, 0), 1), 1001, 199);
        uses("399", after(people(1000, 399, 0, 0), 1), 1001, 398);
        uses("400", after(people(1000, 400, 0, 0), 1), 1002, 398);
        uses("none", after(people(1000, 0, 0, 0), 1), 1000, 0);
    }

    private static OneMeasure after(OneMeasure m, int seasons) {
        m.seasons(seasons);
        return m;
    }

    /** "where new are fewer than old" */
    private static void p30_fewer() {
        uses("one fewer", after(people(401, 400, 0, 0), 1), 403, 398);
        uses("as many", after(people(400, 400, 0, 0), 1), 400, 400);
        uses("one more", after(people(400, 401, 0, 0), 1), 400, 401);
        uses("many more", after(people(0, 100000, 0, 0), 100), 0, 100000);
    }

    /** "then": those who have just learned count, and forget too. */
    private static void p30_learnThenForget() {
        uses("as many behind the learning", after(people(402, 400, 3, 0), 1), 401, 401);
        uses("fewer still", after(people(404, 400, 3, 0), 1), 405, 399);
        uses("199 and 1 who learn", after(people(1000, 199, 1, 0), 1), 1000, 199);
        uses("198 and 1 who learn", after(people(1000, 198, 1, 0), 1), 999, 199);
    }

    /** n SEASONS are n times one. */
    private static void p30_oneByOne() {
        OneMeasure m = people(90000, 1000, 11, 7);
        OneMeasure n = people(90000, 1000, 11, 7);
        for (int i = 0; i < 100; i++) m.seasons(1);
        n.seasons(100);
        due("old", n.uses(0, OLD), m.uses(0, OLD));
        due("new", n.uses(0, NEW), m.uses(0, NEW));
        due("as told", n.uses(0, NEW), newAfter(90000, 1000, 18, 100));
    }

    // ---- promise 31

    private static OneMeasure atBothEnds() {
        OneMeasure m = people(10, 3, 500, 0);
        m.people(5, 20, 30, 0, 0);
        return m;
    }

    /** "Of a DISTRICT" */
    private static void p31_district() {
        Edges.edges("district, old", PeopleEdgeTest::atBothEnds, BAD, 0, 10, 5, 20, (m, d) -> m.uses(d, OLD));
        Edges.edges("district, new", PeopleEdgeTest::atBothEnds, BAD, 0, 3, 5, 30, (m, d) -> m.uses(d, NEW));
        Edges.edges("district, till half", PeopleEdgeTest::atBothEnds, BAD, 0, 1, 5, 0, (m, d) -> m.uses(d, TILL_HALF));
    }

    /** "old (what = 0), new (1), SEASONS till HALF use the new (2" */
    private static void p31_what() {
        Edges.edges("what", PeopleEdgeTest::atBothEnds, BAD, 0, 10, 2, 1, (m, what) -> m.uses(0, what));
        due("new", atBothEnds().uses(0, NEW), 3);
    }

    /** "0: they do" and "(new no fewer than old)" */
    private static void p31_theyDo() {
        due("as many", people(500, 500, 0, 0).uses(0, TILL_HALF), 0);
        due("one more", people(499, 500, 0, 0).uses(0, TILL_HALF), 0);
        due("one fewer", people(501, 500, 0, 0).uses(0, TILL_HALF), NONE);
        due("one fewer, but they learn", people(501, 500, 2, 0).uses(0, TILL_HALF), 1);
        due("nobody", people(0, 0, 0, 0).uses(0, TILL_HALF), 0);
        due("one of the old alone", people(1, 0, 500, 499).uses(0, TILL_HALF), NONE);
        due("one of the new alone", people(0, 1, 0, 0).uses(0, TILL_HALF), 0);
    }

    /** HALF is asked behind a whole SEASON, not behind the learning alone. */
    private static void p31_behindTheSeason() {
        due("just half in one", people(1000, 0, 500, 0).uses(0, TILL_HALF), 1);
        due("one short of it", people(1000, 0, 499, 0).uses(0, TILL_HALF), 2);
    }

    /** "tried, to 400; none": found by trying, the one comes there in 400 SEASONS, the other in 401. */
    private static void p31_fourHundred() {
        due("in 400", people(3189, 0, 5, 0).uses(0, TILL_HALF), 400);
        OneMeasure m = people(3409, 182, 2, 3);
        due("in 401", m.uses(0, TILL_HALF), NONE);
        m.seasons(1);
        due("in 400 from here", m.uses(0, TILL_HALF), 400);
        m.seasons(100);
        due("in 300", m.uses(0, TILL_HALF), 300);
        for (int i = 0; i < 3; i++) m.seasons(i < 2 ? 100 : 99);
        due("in one", m.uses(0, TILL_HALF), 1);
        m.seasons(1);
        due("now", m.uses(0, TILL_HALF), 0);
    }

    /** "tried": nothing changes. */
    private static void p31_tried() {
        Edges.asked("till half", PeopleEdgeTest::atBothEnds, 1, m -> m.uses(0, TILL_HALF));
        Edges.asked("never", () -> people(1000, 0, 0, 0), NONE, m -> m.uses(0, TILL_HALF));
    }

    // ---- promise 32

    private static OneMeasure keptNone() {
        OneMeasure m = Edges.told();
        m.back();
        return m;
    }

    private static OneMeasure keptTwo() {
        OneMeasure m = Edges.told();
        m.keep();
        m.weeks(3);
        m.people(1, 5, 6, 7, 8);
        m.rod(0, 5, -7, 1, 10);
        return m;
    }

    /** "KEPT: how many." */
    private static void p32_howMany() {
        OneMeasure m = new OneMeasure();
        due("one", m.keep(), 1);
        due("counted", m.count(10), 1);
        due("two", m.keep(), 2);
        due("counted", m.count(10), 2);
    }

    /** "2 at most", "FULL." */
    private static void p32_full() {
        due("the second", Edges.told().keep(), 2);
        Edges.refused("the third", PeopleEdgeTest::keptTwo, FULL, OneMeasure::keep);
        OneMeasure m = keptTwo();
        m.keep();
        m.keep();
        due("two still", m.count(10), 2);
        m.back();
        due("room for one again", m.keep(), 2);
        due("and no more", m.keep(), FULL);
    }

    /** Keeping changes nothing of what is KEPT but how many. */
    private static void p32_nothingElse() {
        OneMeasure m = keptNone();
        OneMeasure beside = keptNone();
        m.keep();
        m.back();
        Edges.same("keep and back", m, beside);
    }

    // ---- promise 33

    /** "NO." */
    private static void p33_nothingKept() {
        Edges.refused("never kept", OneMeasure::new, NO, OneMeasure::back);
        Edges.refused("all are back", PeopleEdgeTest::keptNone, NO, OneMeasure::back);
    }

    /** "how many are left" */
    private static void p33_howManyAreLeft() {
        OneMeasure m = keptTwo();
        due("one left", m.back(), 1);
        due("counted", m.count(10), 1);
        due("none left", m.back(), 0);
        due("counted", m.count(10), 0);
        due("no", m.back(), NO);
        due("keep again", m.keep(), 1);
        due("back again", m.back(), 0);
    }

    /** One false rod, long or short, that sells for a WEEK at a time. */
    private static OneMeasure market() {
        OneMeasure m = Edges.units(0, 1);
        m.rod(0, 0, -15, 4, 10);
        m.rod(0, 1, 25, 1, 10);
        m.people(0, 1000, 0, 100, 50);
        return m;
    }

    /** "KEPT are RODS": how many, their off, SEALED, SEIZED, SINCE. */
    private static void p33_rods() {
        OneMeasure m = market();
        m.keep();
        for (int i = 0; i < 5; i++) m.plan(i, 3);
        m.rod(0, 2, 0, 0, 0);
        m.weeks(3);
        int[] before = {-23, 1, 1, -1000, 24, 0, 1, 0};
        for (int i = 0; i < 8; i++) due("before, rod " + i / 4 + ", " + i % 4, m.rodTold(i / 4, i % 4), before[i]);
        m.back();
        int[] back = {-15, 0, 0, -1000, 25, 0, 0, -1000};
        for (int i = 0; i < 8; i++) due("back, rod " + i / 4 + ", " + i % 4, m.rodTold(i / 4, i % 4), back[i]);
        due("the third is gone", m.rodTold(2, 0), -10000);
        due("two", m.count(7), 2);
        due("none seized", m.count(9), 0);
        due("a third again", m.rod(0, 3, 7, 0, 0), 2);
        due("as it is told now", m.rodTold(2, 0), 7);
    }

    /** "WEEK": those beyond may come again. */
    private static void p33_week() {
        OneMeasure m = new OneMeasure();
        m.weeks(1);
        m.keep();
        for (int i = 0; i < 4; i++) m.weeks(20);
        m.weeks(19);
        due("full", m.weeks(1), FULL);
        m.back();
        due("one", m.count(8), 1);
        due("two", m.weeks(1), 2);
    }

    /** "CHEATED, WON" */
    private static void p33_cheatedAndWon() {
        OneMeasure m = market();
        m.weeks(1);
        m.keep();
        m.weeks(1);
        due("cheated", m.cheated(0, 0), 150 + 190);
        due("won", m.cheated(1, 1), 250 + 240);
        m.back();
        due("cheated, back", m.cheated(0, 0), 150);
        due("won, back", m.cheated(1, 1), 250);
        m.weeks(1);
        due("cheated again", m.cheated(0, 0), 150 + 190);
        due("won again", m.cheated(1, 1), 250 + 240);
    }

    /** "PEOPLE": with their SCHOOL and TRUST. */
    private static void p33_people() {
        OneMeasure m = market();
        m.keep();
        m.people(0, 7, 8, 0, 0);
        m.people(5, 9, 10, 0, 0);
        m.back();
        uses("back", m, 1000, 0);
        due("nobody there", m.uses(5, OLD), 0);
        due("nobody there", m.uses(5, NEW), 0);
        due("school and trust", m.seasons(1), 150);
    }

    /** "(not THE PLAN)" */
    private static void p33_notThePlan() {
        OneMeasure m = new OneMeasure();
        for (int i = 0; i < 10; i++) m.plan(i, i + 1);
        m.keep();
        m.weeks(2);
        m.plan(5, 63);
        m.back();
        due("the WEEK is back", m.count(8), 0);
        for (int i = 0; i < 10; i++) due("plan " + i, m.plan(i, 0), i == 5 ? 63 : i < 8 ? i + 3 : 0);
    }

    /** Nor anything else that is not named. */
    private static void p33_notTheRest() {
        OneMeasure m = new OneMeasure();
        m.keep();
        m.unit(0, 1000, 0);
        m.unit(0, 1000, 0);
        m.table(0, 1, 2, 1, 3);
        m.chain(0, 1, 1);
        m.trial(0, 1, 1, 1, 0);
        Edges.decree(m, "b0,0,0,0;");
        m.paper(0, 0, 0, 1, 0);
        m.allowed(7);
        m.back();
        int[] counts = {2, 1, 1, 1, 9, 1, 1, 0, 0, 0, 0};
        for (int what = 0; what <= 10; what++) due("count " + what, m.count(what), counts[what]);
        due("turn", m.turn(0, 1, 5), 10);
        due("let", m.let(0, 0, 0), 0);
        due("allowed", m.allowed(20), 7);
    }

    /** "As KEPT last": the last first, then the one before, each as it was. */
    private static void p33_lastFirst() {
        OneMeasure m = people(1, 0, 0, 0);
        m.keep();
        m.people(0, 2, 0, 0, 0);
        m.keep();
        m.people(0, 3, 0, 0, 0);
        m.back();
        due("the second", m.uses(0, OLD), 2);
        m.people(0, 4, 0, 0, 0);
        m.back();
        due("the first", m.uses(0, OLD), 1);
    }

    /** What comes back may be changed, and KEPT anew. */
    private static void p33_keptAnew() {
        OneMeasure m = market();
        m.keep();
        m.weeks(1);
        m.back();
        m.keep();
        m.weeks(2);
        m.back();
        due("week", m.count(8), 0);
        due("off", m.rodTold(0, 0), -15);
        due("cheated", m.cheated(0, 0), 0);
    }

    // ---- promise 34

    /** "0 UNITS, ... 10 KEPT. BAD." */
    private static void p34_what() {
        Edges.edges("what", Edges::told, BAD, 0, 4, 10, 1, (m, what) -> m.count(what));
        int[] counts = {4, 3, 2, 2, 11, 5, 2, 4, 2, 1, 1};
        for (int what = 0; what <= 10; what++) {
            int asked = what;
            Edges.asked("count " + what, Edges::told, counts[what], m -> m.count(asked));
        }
    }

    /** Each is 0 as long as nothing of it is told. */
    private static void p34_empty() {
        for (int what = 0; what <= 10; what++) {
            int asked = what;
            Edges.asked("count " + what, OneMeasure::new, 0, m -> m.count(asked));
        }
    }

    /** Each as far as it goes, and a refused call is not counted. */
    private static void p34_full() {
        OneMeasure m = new OneMeasure();
        for (int i = 0; i < 17; i++) m.unit(0, 1000, 0);
        for (int i = 0; i < 13; i++) m.chain(i % 2, 1, 1);
        for (int i = 0; i < 31; i++) m.trial(0, 1, 1, 1, 0);
        for (int i = 0; i < 11; i++) m.paper(0, 0, 0, 1, 0);
        for (int i = 0; i < 13; i++) m.rod(0, 0, 100, 0, 0);
        Edges.say(m, "a0,0,0,0;".repeat(32) + "b15,5,10,10;");
        m.write(1, 0);
        m.force();
        for (int i = 0; i < 3; i++) m.keep();
        m.plan(0, 1);
        for (int i = 0; i < 6; i++) m.weeks(20);
        for (int i = 0; i < 16; i++) {
            m.table(i, (i + 1) % 16, 1, 1, 0);
            m.table(i, i, 1, 1, 0);
        }
        int[] counts = {16, 16, 12, 30, 300, 33, 10, 12, 100, 12, 2};
        for (int what = 0; what <= 10; what++) due("count " + what, m.count(what), counts[what]);
    }

    /** "TABLES": told anew it is one still; "RODS SEIZED": those in hand do not count. */
    private static void p34_onceEach() {
        OneMeasure m = Edges.told();
        m.table(0, 1, 1, 1, 0);
        due("told anew", m.count(1), 3);
        m.table(3, 2, 1, 1, 0);
        due("another", m.count(1), 4);
        due("seized", m.count(9), 1);
        m.plan(0, 63);
        m.weeks(1);
        due("seized with those that were off", m.count(9), 2);
    }

    /** "bytes of THE TEXT" and "ITEMS IN FORCE" go their own ways. */
    private static void p34_textAndItems() {
        OneMeasure m = Edges.decreed("a0,0,0,0;b0,0,0,0;");
        due("bytes", m.count(4), 18);
        m.clear();
        due("no bytes", m.count(4), 0);
        due("items", m.count(5), 2);
        m.force();
        due("no items", m.count(5), 0);
    }
}
