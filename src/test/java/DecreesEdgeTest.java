/** The edges that the document names for the text and the decrees: promises 11 to 18. */
public final class DecreesEdgeTest {
    private static final long BAD = Edges.BAD, NO = Edges.NO, FULL = Edges.FULL, NONE = Edges.NONE;
    private static final String ITEM = "a0,0,0,0;";

    public static void main(String[] args) {
        Edges.run(DecreesEdgeTest.class, 11, 18);
    }

    private static void due(String what, long got, long want) {
        Edges.due(what, got, want);
    }

    private static OneMeasure saying(String text) {
        return Edges.say(new OneMeasure(), text);
    }

    // ---- promise 11

    /** "n bytes (1 to 8)": told() has 11 bytes. */
    private static void p11_howManyBytes() {
        Edges.edges("n", Edges::told, BAD, 1, 12, 8, 19, (m, n) -> m.write(n, 0x3030303030303030L));
        Edges.edges("n, into nothing", OneMeasure::new, BAD, 1, 1, 8, 8, (m, n) -> m.write(n, -1L));
    }

    /** "n bytes of v, the highest first": the n lowest bytes of v. */
    private static void p11_highestFirst() {
        OneMeasure m = new OneMeasure();
        due("one byte", m.write(1, 'b'), 1);
        due("eight bytes", m.write(8, 0x31352c352c392c39L), 9);
        due("one byte, the others of v are left out", m.write(1, 0x6161616161616100L + ';'), 10);
        due("no fault", m.fault(), NONE);
        due("in force", m.force(), 1);
        due("b15,5,9,9;", m.why(15, 5, 9), 0);
        due("b15,5,9,9;", m.let(15, 5, 9), 0);
    }

    /** "come behind THE TEXT" */
    private static void p11_behind() {
        OneMeasure m = saying("a1,2,3,4;");
        Edges.say(m, "b1,2,3,4;");
        m.force();
        due("the second goes last", m.why(1, 2, 3), 1);
        due("the second goes last", m.let(1, 2, 3), 0);
    }

    /** "a TEXT of bytes": each byte from 0 to 255 may be written, and not as a sign of another. */
    private static void p11_anyByte() {
        OneMeasure m = new OneMeasure();
        due("0", m.write(1, 0), 1);
        due("255", m.write(1, 255), 2);
        due("-1", m.write(8, -1L), 10);
        due("the least", m.write(8, Long.MIN_VALUE), 18);
        due("the greatest", m.write(8, Long.MAX_VALUE), 26);
        m.clear();
        Edges.say(m, "a0,0,0,0");
        m.write(1, ';' + 128);
        due("a byte above 127 is no ;", m.fault(), 0);
        m.clear();
        Edges.say(m, "a0,0,0,0");
        m.write(1, ';' + 256);
        due("but 256 and ; is", m.fault(), NONE);
    }

    private static OneMeasure bytes(int n) {
        return saying(ITEM.repeat(34).substring(0, n));
    }

    /** "(300 at most)" and "FULL" */
    private static void p11_full() {
        for (int n = 1; n <= 8; n++) {
            int some = n;
            due("to the brim by " + n, bytes(300 - n).write(n, 0), 300);
            Edges.refused("one beyond by " + n, () -> bytes(301 - some), FULL, m -> m.write(some, 0));
            Edges.refused("full, " + n, () -> bytes(300), FULL, m -> m.write(some, 0));
        }
    }

    /** "nothing changes then": a smaller piece still goes in. */
    private static void p11_notInPart() {
        OneMeasure m = bytes(297);
        due("four", m.write(4, 0), FULL);
        due("not three of the four", m.count(4), 297);
        due("sound as it was", m.fault(), NONE);
        due("three", m.write(3, 0), 300);
    }

    /** "Of several the first" */
    private static void p11_badBeforeFull() {
        Edges.refused("n 0", () -> bytes(300), BAD, m -> m.write(0, 0));
        Edges.refused("n 9", () -> bytes(300), BAD, m -> m.write(9, 0));
        Edges.refused("n 9, where 8 would go in", () -> bytes(292), BAD, m -> m.write(9, 0));
    }

    // ---- promise 12

    /** "THE TEXT is empty: how long it was." */
    private static void p12_howLong() {
        int[] lengths = {0, 1, 8, 9, 299, 300};
        for (int n : lengths) {
            OneMeasure m = bytes(n);
            due("clear of " + n, m.clear(), n);
            due("it is empty", m.count(4), 0);
            due("and again", m.clear(), 0);
            due("without fault", m.fault(), NONE);
            due("it can be written anew", m.write(8, 0), 8);
        }
    }

    /** What is IN FORCE is not THE TEXT. */
    private static void p12_inForceStays() {
        OneMeasure m = Edges.decreed("b2,2,2,2;");
        m.clear();
        due("items", m.count(5), 1);
        due("let", m.let(2, 2, 2), 0);
    }

    /** Nothing of the old TEXT comes back. */
    private static void p12_nothingIsLeft() {
        OneMeasure m = bytes(300);
        m.clear();
        Edges.say(m, "a0");
        due("begun alone", m.fault(), 0);
        due("not ended by what was there", m.force(), NO);
    }

    // ---- promise 13

    private static void sound(String text) {
        OneMeasure m = saying(text);
        due(text, m.fault(), NONE);
        due("behind another: " + text, saying(ITEM + text).fault(), NONE);
    }

    private static void broken(String text) {
        due(text, saying(text).fault(), 0);
        due("behind another: " + text, saying(ITEM + text).fault(), 9);
        due("ahead of another: " + text, saying(text + ITEM).fault(), 0);
    }

    /** "(empty at first)": an empty TEXT has no FAULT. */
    private static void p13_empty() {
        due("never written", new OneMeasure().fault(), NONE);
        due("cleared", saying("").fault(), NONE);
    }

    /** "unit U (0 to 15)" in a, b and n */
    private static void p13_unit() {
        sound("a0,1,2,3;");
        sound("a15,1,2,3;");
        broken("a16,1,2,3;");
        sound("b0,1,2,3;");
        sound("b15,1,2,3;");
        broken("b16,1,2,3;");
        sound("n1,0,2,3;");
        sound("n1,15,2,3;");
        broken("n1,16,2,3;");
        broken("a9999,1,2,3;");
        broken("n1,9999,2,3;");
    }

    /** "DISTRICTS 0 to 5" */
    private static void p13_district() {
        String[] heads = {"a1,", "b1,", "n1,1,", "h"};
        String[] tails = {",2,3;", ",2,3;", ",3;", ",1,2,3;"};
        for (int i = 0; i < 4; i++) {
            sound(heads[i] + "0" + tails[i]);
            sound(heads[i] + "5" + tails[i]);
            broken(heads[i] + "6" + tails[i]);
            broken(heads[i] + "9999" + tails[i]);
        }
    }

    /** "WORDS 0 to 9" */
    private static void p13_word() {
        sound("n0,1,2,3;");
        sound("n9,1,2,3;");
        broken("n10,1,2,3;");
        broken("n9999,1,2,3;");
    }

    /** "heaped (v 1), struck (v 0)" */
    private static void p13_heaped() {
        sound("h1,0,2,3;");
        sound("h1,1,2,3;");
        broken("h1,2,2,3;");
        broken("h1,9999,2,3;");
    }

    /** "DAYS are 0 to 9999" */
    private static void p13_days() {
        sound("a1,1,0,9999;");
        sound("b1,1,0,9999;");
        sound("h1,1,0,9999;");
        sound("n1,1,1,0;");
        sound("n1,1,1,9999;");
        broken("a1,1,0,10000;");
        broken("b1,1,0,10000;");
        broken("h1,1,0,10000;");
        broken("n1,1,1,10000;");
        broken("a1,1,10000,10000;");
    }

    /** "(s no more than t)" */
    private static void p13_orderOfDays() {
        String[] heads = {"a1,1,", "b1,1,", "h1,1,"};
        for (String head : heads) {
            sound(head + "0,0;");
            sound(head + "7,7;");
            sound(head + "7,8;");
            sound(head + "9999,9999;");
            broken(head + "8,7;");
            broken(head + "1,0;");
            broken(head + "9999,9998;");
        }
        sound("n1,5,1,0;");
    }

    /** "numbers (of one to four figures)" */
    private static void p13_figures() {
        sound("a1,1,1,1;");
        sound("a01,01,01,01;");
        sound("a001,001,001,001;");
        sound("a0001,0001,0001,0001;");
        broken("a00001,1,1,1;");
        broken("a1,00001,1,1;");
        broken("a1,1,00001,1;");
        broken("a1,1,1,00001;");
        broken("a,1,1,1;");
        broken("a1,,1,1;");
        broken("a1,1,,1;");
        broken("a1,1,1,;");
    }

    /** "parted by , and ;": four numbers, no more and no fewer. */
    private static void p13_howManyNumbers() {
        String letters = "abnh";
        for (int i = 0; i < 4; i++) {
            char c = letters.charAt(i);
            sound(c + "1,1,1,1;");
            broken(c + ";");
            broken(c + "1;");
            broken(c + "1,1;");
            broken(c + "1,1,1;");
            broken(c + "1,1,1,1,1;");
            broken(c + "1,1,1,1,;");
        }
    }

    /** "each a letter": a, b, n and h alone. */
    private static void p13_letters() {
        for (int c = 0; c < 256; c++) {
            boolean told = c == 'a' || c == 'b' || c == 'n' || c == 'h';
            due("letter " + c, saying((char) c + "1,1,1,1;").fault(), told ? NONE : 0);
        }
    }

    /** "numbers parted by , and ;": no other byte. */
    private static void p13_otherBytes() {
        for (int c = 0; c < 256; c++) {
            boolean figure = c >= '0' && c <= '9';
            String sign = String.valueOf((char) c);
            due("for a figure " + c, saying("b1,1,1," + sign + ";").fault(), figure && c != '0' ? NONE : 0);
            due("for a , " + c, saying("b1" + sign + "1,1,1;").fault(), c == ',' ? NONE : 0);
            due("for the ; " + c, saying("b1,1,1,1" + sign).fault(), c == ';' ? NONE : 0);
            due("between two " + c, saying(ITEM + sign + ITEM).fault(), 9);
        }
    }

    /** The ITEM ends with its ; and the last one too. */
    private static void p13_cutOff() {
        String whole = "b15,5,1234,5678;";
        for (int n = 1; n < whole.length(); n++) {
            due("cut to " + n, saying(whole.substring(0, n)).fault(), 0);
            due("the second cut to " + n, saying(whole + whole.substring(0, n)).fault(), whole.length());
        }
        due("whole", saying(whole).fault(), NONE);
    }

    /** "the place of the first byte of the first ITEM that is not so" */
    private static void p13_place() {
        due("the first of two", saying("a1,1,2,1;b1,1,2,1;").fault(), 0);
        due("the second", saying("a10,1,1,1;b1,1,2,1;").fault(), 10);
        due("the third", saying("a10,1,1,1;b15,5,1234,5678;n10,0,0,0;").fault(), 26);
        due("the last byte of 300", saying("a10,0,0,0;".repeat(29) + "a0,0,0,0;" + "a").fault(), 299);
        due("the 34th cannot be ended", saying(ITEM.repeat(33) + "a0,").fault(), 297);
        due("the first byte of 300", saying("x" + "a10,0,0,0;".repeat(29) + ITEM).fault(), 0);
        due("300 without fault", saying("a10,0,0,0;".repeat(30)).fault(), NONE);
    }

    /** Asking changes nothing. */
    private static void p13_asking() {
        Edges.asked("fault", Edges::told, 9, OneMeasure::fault);
        Edges.asked("no fault", () -> bytes(27), NONE, OneMeasure::fault);
    }

    // ---- promise 14

    /** "IN FORCE: how many ITEMS." */
    private static void p14_howMany() {
        due("none", new OneMeasure().force(), 0);
        due("one", saying(ITEM).force(), 1);
        due("30 of ten bytes", saying("a10,0,0,0;".repeat(30)).force(), 30);
        OneMeasure m = saying(ITEM.repeat(32) + "b15,5,10,10;");
        due("33 in 300 bytes", m.force(), 33);
        due("counted", m.count(5), 33);
        due("the last tells", m.why(15, 5, 10), 32);
    }

    /** "NO: a FAULT." */
    private static void p14_fault() {
        Edges.refused("an ITEM begun", Edges::told, NO, OneMeasure::force);
        Edges.refused("a fault at first", () -> saying("c"), NO, OneMeasure::force);
        Edges.refused("a fault at last", () -> saying(ITEM.repeat(33) + "a"), NO, OneMeasure::force);
        OneMeasure m = Edges.decreed("b1,1,1,1;");
        Edges.say(m, "b2,1,1,1;b3");
        due("no", m.force(), NO);
        due("the old one is in force", m.let(1, 1, 1), 0);
        due("nothing of the new", m.let(2, 1, 1), 1);
        due("one item", m.count(5), 1);
        due("27 less 7 bytes are there still", m.count(4), 20);
    }

    /** "an empty TEXT" may be IN FORCE again. */
    private static void p14_emptyAgain() {
        OneMeasure m = Edges.decreed("b1,1,1,1;n1,1,1,1;");
        m.clear();
        due("none", m.force(), 0);
        due("counted", m.count(5), 0);
        due("let", m.let(1, 1, 1), 1);
        due("means", m.means(1, 1, 1, 0), 0);
    }

    /** Fewer ITEMS than before: nothing of the old ones tells any more. */
    private static void p14_fewer() {
        OneMeasure m = Edges.decreed("b1,1,1,1;b2,1,1,1;");
        Edges.decree(m, "b3,1,1,1;");
        due("unit 1", m.let(1, 1, 1), 1);
        due("unit 2", m.let(2, 1, 1), 1);
        due("unit 3", m.let(3, 1, 1), 0);
    }

    /** Fewer ITEMS than before: no quarrel, no meaning and no heaping of the old ones is left. */
    private static void p14_fewerOfEachLetter() {
        OneMeasure m = Edges.decreed("a1,1,1,1;b1,1,1,1;n1,0,1,0;n1,2,1,1;h1,0,0,9;");
        m.unit(1, 1000, 50);
        m.paper(1, 1, 1, 1000, 2);
        Edges.decree(m, "a1,1,1,1;");
        due("quarrels", m.quarrels(1, 1, 0), 0);
        Edges.decree(m, "a1,1,1,1;b1,1,2,2;n1,0,1,0;n1,2,1,1;h1,0,0,9;");
        Edges.decree(m, "a1,1,1,1;b1,1,2,2;n1,0,1,0;");
        due("means", m.means(1, 1, 1, 0), 1);
        due("sure", m.means(1, 1, 1, 1), 0);
        Edges.decree(m, "a1,1,1,1;b1,1,2,2;n1,0,1,0;n1,2,1,1;h1,0,0,9;");
        Edges.decree(m, "a1,1,1,1;b1,1,2,2;n1,0,1,0;n1,2,1,1;");
        due("least", m.owed(0, 1, 0), 1000);
        due("most", m.owed(0, 1, 1), 1500);
    }

    /** Every call goes through as many ITEMS as there can be, to the first and to the last of them. */
    private static void p14_asManyAsThereCanBe() {
        OneMeasure m = Edges.decreed("b0,0,0,0;" + "n1,1,1,1;".repeat(31) + "a0,0,0,0;");
        due("items", m.count(5), 33);
        due("why", m.why(0, 0, 0), 32);
        due("quarrels", m.quarrels(0, 0, 0), 1);
        due("first quarrel", m.quarrels(0, 0, 1), 0);
        due("means", m.means(1, 1, 1, 0), 2);
        due("sure", m.means(1, 1, 1, 1), 1);
        m = Edges.decreed("n0,3,0,0;" + ITEM.repeat(31) + "n0,4,0,0;");
        due("means", m.means(0, 0, 0, 0), 24);
        due("not sure", m.means(0, 0, 0, 1), NONE);
    }

    /** THE TEXT stays, and can be written on. */
    private static void p14_textStays() {
        OneMeasure m = saying("b1,1,1,1;");
        m.force();
        due("as long", m.count(4), 9);
        due("again", m.force(), 1);
        Edges.say(m, "b2,1,1,1;");
        due("not yet in force", m.let(2, 1, 1), 1);
        due("in force", m.force(), 2);
        due("now", m.let(2, 1, 1), 0);
    }

    // ---- promise 15

    private static final String EDGES = "b0,0,0,0;b15,5,9999,9999;b3,2,10,20;";

    private static OneMeasure atEdges() {
        return Edges.decreed(EDGES);
    }

    /** "BAD (units 0 to 15, whether told or not)" */
    private static void p15_unit() {
        Edges.edges("unit", OneMeasure::new, BAD, 0, 1, 15, 1, (m, unit) -> m.let(unit, 0, 0));
        Edges.edges("unit by decree", DecreesEdgeTest::atEdges, BAD, 0, 0, 15, 1, (m, unit) -> m.let(unit, 0, 0));
        Edges.edges("unit where some are told", Edges::told, BAD, 0, 1, 15, 1, (m, unit) -> m.let(unit, 0, 0));
        due("unit 15", atEdges().let(15, 5, 9999), 0);
    }

    /** "DISTRICTS 0 to 5" */
    private static void p15_district() {
        Edges.edges("district", DecreesEdgeTest::atEdges, BAD, 0, 1, 5, 0, (m, d) -> m.let(15, d, 9999));
    }

    /** "DAYS are 0 to 9999" */
    private static void p15_day() {
        Edges.edges("day", DecreesEdgeTest::atEdges, BAD, 0, 1, 9999, 0, (m, day) -> m.let(15, 5, day));
        Edges.edges("day", DecreesEdgeTest::atEdges, BAD, 0, 0, 9999, 1, (m, day) -> m.let(0, 0, day));
    }

    /** "on DAYS s to t" */
    private static void p15_fromTo() {
        OneMeasure m = atEdges();
        due("the day before", m.let(3, 2, 9), 1);
        due("the first", m.let(3, 2, 10), 0);
        due("the last", m.let(3, 2, 20), 0);
        due("the day behind", m.let(3, 2, 21), 1);
        due("another unit", m.let(2, 2, 15), 1);
        due("another district", m.let(3, 3, 15), 1);
        due("a single day, before", m.let(15, 5, 9998), 1);
        due("a single day, behind", m.let(0, 0, 1), 1);
    }

    /** "by the last ITEM (a, b) that tells of it on that DAY (none: it is let)" */
    private static void p15_last() {
        OneMeasure m = Edges.decreed("b1,1,0,9;a1,1,5,6;b1,1,6,6;n1,1,1,0;h1,0,0,9;a1,2,0,9;a2,1,0,9;");
        due("b alone", m.let(1, 1, 4), 0);
        due("b, a", m.let(1, 1, 5), 1);
        due("b, a, b", m.let(1, 1, 6), 0);
        due("b again", m.let(1, 1, 7), 0);
        due("none", m.let(1, 1, 10), 1);
    }

    // ---- promise 16

    /** "BAD": the same numbers as for let. */
    private static void p16_numbers() {
        Edges.edges("unit", DecreesEdgeTest::atEdges, BAD, 0, 0, 15, NONE, (m, unit) -> m.why(unit, 0, 0));
        Edges.edges("district", DecreesEdgeTest::atEdges, BAD, 0, NONE, 5, 1, (m, d) -> m.why(15, d, 9999));
        Edges.edges("day", DecreesEdgeTest::atEdges, BAD, 0, NONE, 9999, 1, (m, day) -> m.why(15, 5, day));
    }

    /** "NONE" and "Of several the first" */
    private static void p16_none() {
        Edges.refused("an empty text", OneMeasure::new, NONE, m -> m.why(0, 0, 0));
        Edges.refused("the day before", DecreesEdgeTest::atEdges, NONE, m -> m.why(3, 2, 9));
        Edges.refused("the day behind", DecreesEdgeTest::atEdges, NONE, m -> m.why(3, 2, 21));
        Edges.refused("n and h do not tell of it", () -> Edges.decreed("n1,1,1,1;h1,1,1,1;"), NONE, m -> m.why(1, 1, 1));
        Edges.refused("BAD before NONE", OneMeasure::new, BAD, m -> m.why(16, 0, 0));
    }

    /** "that ITEM's number (from 0)": ITEMS of all letters count. */
    private static void p16_number() {
        OneMeasure m = Edges.decreed("a1,1,0,9;n1,1,1,1;h1,1,1,1;b1,1,5,5;a2,1,0,9;");
        due("the first", m.why(1, 1, 4), 0);
        due("the fourth", m.why(1, 1, 5), 3);
        due("the first again", m.why(1, 1, 6), 0);
        due("the last", m.why(2, 1, 0), 4);
        due("the last of 33", Edges.decreed(ITEM.repeat(33)).why(0, 0, 0), 32);
    }

    // ---- promise 17

    /** "QUARRELS of U in D": unit and district. */
    private static void p17_numbers() {
        Edges.Scene scene = () -> Edges.decreed("a0,0,1,2;b0,0,1,2;a15,5,3,3;b15,5,3,3;");
        Edges.edges("unit", scene, BAD, 0, 2, 15, 0, (m, unit) -> m.quarrels(unit, 0, 0));
        Edges.edges("district", scene, BAD, 0, 0, 5, 1, (m, d) -> m.quarrels(15, d, 0));
    }

    /** "how many DAYS (what = 0), the first (1; NONE)" */
    private static void p17_what() {
        Edges.Scene scene = () -> Edges.decreed("a3,2,7,9;b3,2,7,9;");
        Edges.edges("what", scene, BAD, 0, 3, 1, 7, (m, what) -> m.quarrels(3, 2, what));
        Edges.edges("what, where there are none", OneMeasure::new, BAD, 0, 0, 1, NONE, (m, what) -> m.quarrels(3, 2, what));
    }

    private static void quarrels(String text, long days, long first) {
        OneMeasure m = Edges.decreed(text);
        due("days of " + text, m.quarrels(1, 1, 0), days);
        due("first of " + text, m.quarrels(1, 1, 1), first);
    }

    /** "the DAYS of which an a and a b of the same U and D both tell" */
    private static void p17_bothTell() {
        quarrels("", 0, NONE);
        quarrels("a1,1,0,9999;", 0, NONE);
        quarrels("b1,1,0,9999;", 0, NONE);
        quarrels("a1,1,0,4;b1,1,5,9;", 0, NONE);
        quarrels("a1,1,0,5;b1,1,5,9;", 1, 5);
        quarrels("b1,1,0,5;a1,1,5,9;", 1, 5);
        quarrels("b1,1,5,9;a1,1,0,4;", 0, NONE);
        quarrels("a1,1,0,9;a1,1,0,9;", 0, NONE);
        quarrels("a1,1,0,9;b2,1,0,9;", 0, NONE);
        quarrels("a1,1,0,9;b1,2,0,9;", 0, NONE);
        quarrels("a1,1,0,9;n1,1,1,0;h1,0,0,9;", 0, NONE);
    }

    /** "DAYS are 0 to 9999" */
    private static void p17_firstAndLastDay() {
        quarrels("a1,1,0,0;b1,1,0,0;", 1, 0);
        quarrels("a1,1,9999,9999;b1,1,9999,9999;", 1, 9999);
        quarrels("a1,1,0,9999;b1,1,0,9999;", 10000, 0);
        quarrels("a1,1,0,9999;b1,1,9999,9999;b1,1,0,0;", 2, 0);
        quarrels("a1,1,0,9999;b1,1,1,9998;", 9998, 1);
    }

    /** "counted once each" */
    private static void p17_onceEach() {
        quarrels("a1,1,3,6;b1,1,3,6;a1,1,3,6;b1,1,3,6;", 4, 3);
        quarrels("a1,1,3,6;b1,1,5,8;b1,1,6,9;a1,1,8,8;", 3, 5);
        quarrels("a1,1,3,6;b1,1,5,5;b1,1,4,4;", 2, 4);
        quarrels("b1,1,20,30;a1,1,25,25;a1,1,2,3;b1,1,3,3;", 2, 3);
    }

    /** As many pieces as 300 bytes have room for. */
    private static void p17_manyPieces() {
        StringBuilder text = new StringBuilder("b1,1,0,9999;");
        for (int i = 0; i < 26; i++) text.append("a1,1,").append(12 + 2 * i).append(',').append(12 + 2 * i).append(';');
        quarrels(text.toString(), 26, 12);
    }

    /** What was asked before leaves nothing behind. */
    private static void p17_askedAgain() {
        OneMeasure m = Edges.decreed("a1,1,3,6;b1,1,3,6;a1,2,1,1;b1,2,1,1;");
        for (int i = 0; i < 2; i++) {
            due("days", m.quarrels(1, 1, 0), 4);
            due("first", m.quarrels(1, 1, 1), 3);
            due("days of none", m.quarrels(2, 1, 0), 0);
            due("first of none", m.quarrels(2, 1, 1), NONE);
            due("days of another", m.quarrels(1, 2, 0), 1);
            due("first of another", m.quarrels(1, 2, 1), 1);
        }
    }

    // ---- promise 18

    private static OneMeasure wordy() {
        return Edges.decreed("n0,0,0,0;n9,15,5,9999;n4,3,2,10;");
    }

    /** "WORDS 0 to 9", "DISTRICTS 0 to 5", "DAYS are 0 to 9999" */
    private static void p18_numbers() {
        Edges.edges("word", DecreesEdgeTest::wordy, BAD, 0, 1, 9, 0, (m, word) -> m.means(word, 0, 9999, 0));
        Edges.edges("word 9", DecreesEdgeTest::wordy, BAD, 0, 0, 9, 1 << 15, (m, word) -> m.means(word, 5, 9999, 0));
        Edges.edges("district", DecreesEdgeTest::wordy, BAD, 0, 0, 5, 1 << 15, (m, d) -> m.means(9, d, 9999, 0));
        Edges.edges("day", DecreesEdgeTest::wordy, BAD, 0, 1, 9999, 1, (m, day) -> m.means(0, 0, day, 0));
        Edges.edges("day 9999", DecreesEdgeTest::wordy, BAD, 0, 0, 9999, 1 << 15, (m, day) -> m.means(9, 5, day, 0));
    }

    /** "units as bits (what = 0), what it means for SURE (1; NONE)" */
    private static void p18_what() {
        Edges.edges("what", DecreesEdgeTest::wordy, BAD, 0, 8, 1, 3, (m, what) -> m.means(4, 2, 10, what));
        Edges.edges("what, where it means nothing", OneMeasure::new, BAD, 0, 0, 1, NONE, (m, what) -> m.means(4, 2, 10, what));
    }

    /** "with s no greater than that DAY" */
    private static void p18_fromDay() {
        OneMeasure m = wordy();
        due("the day before", m.means(4, 2, 9, 0), 0);
        due("the day before, sure", m.means(4, 2, 9, 1), NONE);
        due("the day", m.means(4, 2, 10, 0), 8);
        due("the day, sure", m.means(4, 2, 10, 1), 3);
        due("for ever", m.means(4, 2, 9999, 0), 8);
        due("another word", m.means(3, 2, 10, 0), 0);
        due("another district", m.means(4, 3, 10, 0), 0);
        due("just before the last day", m.means(9, 5, 9998, 0), 0);
    }

    private static void means(String text, int day, long bits, long sure) {
        OneMeasure m = Edges.decreed(text);
        due("bits of " + text, m.means(0, 0, day, 0), bits);
        due("sure of " + text, m.means(0, 0, day, 1), sure);
    }

    /** "SURE is it, if there is just one" */
    private static void p18_justOne() {
        means("n0,4,0,1;", 1, 16, 4);
        means("n0,4,0,1;n0,4,0,0;n0,4,0,1;", 1, 16, 4);
        means("n0,4,0,1;b4,0,0,9;", 1, 16, 4);
        means("n0,0,0,0;", 0, 1, 0);
        means("n0,15,0,0;", 0, 1 << 15, 15);
        means("n0,4,0,1;n0,5,0,2;", 1, 16, 4);
    }

    /** "or all but the one of the latest s are not LET there then: that one" */
    private static void p18_othersNotLet() {
        means("n0,4,0,1;n0,5,0,2;", 2, 48, NONE);
        means("n0,4,0,1;n0,5,0,2;b4,0,2,2;", 2, 48, 5);
        means("n0,4,0,1;n0,5,0,2;b4,0,2,2;", 3, 48, NONE);
        means("n0,4,0,1;n0,5,0,2;b4,0,3,3;", 2, 48, NONE);
        means("n0,4,0,1;n0,5,0,2;b4,1,2,2;", 2, 48, NONE);
        means("n0,4,0,1;n0,5,0,2;b5,0,2,2;", 2, 48, NONE);
        means("n0,4,0,1;n0,5,0,2;b4,0,0,9;b5,0,0,9;", 2, 48, 5);
        means("n0,4,0,1;n0,5,0,2;n0,6,0,1;b4,0,0,9;", 2, 112, NONE);
        means("n0,4,0,1;n0,5,0,2;n0,6,0,1;b4,0,0,9;b6,0,0,9;", 2, 112, 5);
        means("n0,5,0,2;n0,4,0,1;b4,0,0,9;", 2, 48, 5);
        means("n0,5,0,2;n0,4,0,1;b5,0,0,9;", 2, 48, NONE);
        means("n0,0,0,1;n0,5,0,2;", 2, 33, NONE);
        means("n0,0,0,1;n0,5,0,2;b0,0,0,9;", 2, 33, 5);
        means("n0,15,0,1;n0,5,0,2;", 2, (1 << 15) + 32, NONE);
        means("n0,15,0,1;n0,5,0,2;b15,0,0,9;", 2, (1 << 15) + 32, 5);
    }

    /** "(of one s the last ITEM)" */
    private static void p18_sameDay() {
        means("n0,4,0,2;n0,5,0,2;b4,0,0,9;", 2, 48, 5);
        means("n0,4,0,2;n0,5,0,2;b5,0,0,9;", 2, 48, NONE);
        means("n0,5,0,2;n0,4,0,2;b5,0,0,9;", 2, 48, 4);
        means("n0,4,0,2;n0,5,0,2;n0,4,0,2;b5,0,0,9;", 2, 48, 4);
    }
}
