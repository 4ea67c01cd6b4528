import java.lang.reflect.InvocationTargetException;
import java.lang.reflect.Method;
import java.lang.reflect.Modifier;
import java.nio.charset.StandardCharsets;
import java.util.ArrayList;
import java.util.Arrays;
import java.util.Comparator;
import java.util.List;

/**
 * What the tests of the document's edges share. A test is a static method named pNN_what, where NN is its
 * promise; every object stays within the 512 calls for which the document promises anything.
 */
final class Edges {
    static final long BAD = -1, NO = -2, FULL = -3, NONE = -4;

    private static int wrong = 0;
    private static String test = "";

    /** Makes an object and brings it where a test begins. */
    interface Scene {
        OneMeasure make();
    }

    interface Call {
        long on(OneMeasure m);
    }

    /** A call with the one argument whose edges are tried. */
    interface CallWith {
        long on(OneMeasure m, int x);
    }

    private Edges() {
    }

    /** Runs the tests of a class, and sees to it that each of its promises has one. */
    static void run(Class<?> tests, int firstPromise, int lastPromise) {
        Method[] all = tests.getDeclaredMethods();
        Arrays.sort(all, Comparator.comparing(Method::getName));
        boolean[] tested = new boolean[lastPromise + 1];
        int ran = 0;
        for (Method m : all) {
            if (!m.getName().matches("p\\d\\d_\\w+") || !Modifier.isStatic(m.getModifiers())) continue;
            tested[Integer.parseInt(m.getName().substring(1, 3))] = true;
            runOne(m);
            ran++;
        }
        for (int i = firstPromise; i <= lastPromise; i++) {
            if (!tested[i]) fail("promise " + i + " has no test");
        }
        System.out.println(wrong == 0 ? ran + " tests of edges hold" : wrong + " answers are not as due");
        if (wrong != 0) System.exit(1);
    }

    private static void runOne(Method m) {
        test = "promise " + Integer.parseInt(m.getName().substring(1, 3)) + ", " + m.getName().substring(4);
        try {
            m.setAccessible(true);
            m.invoke(null);
        } catch (InvocationTargetException e) {
            fail("ends with " + e.getCause());
        } catch (IllegalAccessException e) {
            fail("cannot be called");
        }
    }

    private static void fail(String what) {
        wrong++;
        System.out.println(test + ": " + what);
    }

    static void due(String what, long got, long want) {
        if (got != want) fail(what + " answered " + got + ", due is " + want);
    }

    /** The call is refused by this answer, and an object that never heard it is the same in all that can be asked. */
    static void refused(String what, Scene scene, long answer, Call call) {
        OneMeasure m = scene.make();
        due(what, call.on(m), answer);
        same(what + " changes nothing", m, scene.make());
    }

    /** The call answers so, and changes nothing. */
    static void asked(String what, Scene scene, long answer, Call call) {
        refused(what, scene, answer, call);
    }

    /** The least and the most are taken with their answers; what lies beyond them is refused and changes nothing. */
    static void edges(String what, Scene scene, long refusal, int least, long atLeast, int most, long atMost, CallWith call) {
        due(what + " " + least, call.on(scene.make(), least), atLeast);
        due(what + " " + most, call.on(scene.make(), most), atMost);
        int[] beyond = {least - 1, most + 1, Integer.MIN_VALUE, Integer.MAX_VALUE};
        for (int x : beyond) refused(what + " " + x, scene, refusal, m -> call.on(m, x));
    }

    static void same(String what, OneMeasure m, OneMeasure beside) {
        List<String> one = all(m);
        List<String> other = all(beside);
        for (int i = 0; i < one.size(); i++) {
            if (one.get(i).equals(other.get(i))) continue;
            fail(what + ": now " + one.get(i) + ", due is " + other.get(i));
            return;
        }
    }

    // ---- texts

    /** Writes a text by pieces of up to 8 bytes. */
    static OneMeasure say(OneMeasure m, String text) {
        byte[] all = text.getBytes(StandardCharsets.ISO_8859_1);
        for (int at = 0; at < all.length; at += 8) {
            int n = Math.min(8, all.length - at);
            long v = 0;
            for (int i = 0; i < n; i++) v = v << 8 | all[at + i] & 255;
            if (m.write(n, v) < 0) fail("not written: " + text);
        }
        return m;
    }

    static OneMeasure decree(OneMeasure m, String text) {
        m.clear();
        if (say(m, text).force() < 0) fail("not in force: " + text);
        return m;
    }

    static OneMeasure decreed(String text) {
        return decree(new OneMeasure(), text);
    }

    // ---- scenes

    /** So many units of one sort, each of 1000 grains. */
    static OneMeasure units(int sort, int n) {
        OneMeasure m = new OneMeasure();
        for (int i = 0; i < n; i++) m.unit(sort, 1000, 0);
        return m;
    }

    /** A little of everything: units 0, 1 of SORT 0 and 2, 3 of SORT 1; one KEPT; an ITEM begun in THE TEXT. */
    static OneMeasure told() {
        OneMeasure m = new OneMeasure();
        m.unit(0, 1000, 0);
        m.unit(0, 900, 0);
        m.unit(1, 500, 20);
        m.unit(1, 700, 100);
        m.table(0, 1, 10, 9, 3);
        m.table(1, 0, 9, 10, 2);
        m.table(2, 3, 5, 7, 3);
        m.chain(0, 57000, 1);
        m.chain(1, 57100, 3);
        m.trial(0, 1, 9, 10, 50);
        m.trial(2, 3, 7, 5, 100);
        decree(m, "n0,2,1,5;n0,3,1,9;b1,1,0,70;a1,1,7,7;h1,1,20,30;");
        m.clear();
        say(m, "b0,0,3,3;a1");
        m.paper(1, 0, 5, 1000, 2);
        m.paper(1, 0, 9, 2500, 0);
        m.rod(1, 1, -30, 2, 10);
        m.rod(0, 2, 25, 3, 7);
        m.rod(2, 1, 5, 1, 4);
        m.allowed(22);
        m.plan(0, 2);
        m.plan(1, 1);
        m.plan(9, 63);
        m.people(1, 1000, 200, 10, 5);
        m.people(4, 5000, 4000, 100, 0);
        m.weeks(1);
        m.seasons(1);
        m.keep();
        m.weeks(1);
        m.rod(3, 3, -100, 5, 20);
        m.people(1, 2000, 300, 20, 7);
        return m;
    }

    // ---- all that can be asked

    /** The answers of all calls that tell of the object; those that change it come last. */
    private static List<String> all(OneMeasure m) {
        List<String> seen = new ArrayList<>();
        measures(m, seen);
        decrees(m, seen);
        market(m, seen);
        rest(m, seen);
        return seen;
    }

    private static void see(List<String> seen, String call, long answer) {
        seen.add(call + " = " + answer);
    }

    private static void measures(OneMeasure m, List<String> seen) {
        for (int i = 0; i <= 10; i++) see(seen, "count " + i, m.count(i));
        for (int a = 0; a < 4; a++) {
            for (int b = 0; b < 4; b++) see(seen, "turn " + a + " " + b, m.turn(a, b, 1234567));
        }
        see(seen, "lost", m.lost(0, 1, 98765));
        for (int i = -2; i < 4; i++) see(seen, "best " + i, m.best(i));
        for (int i = 0; i < 10; i++) see(seen, "earth " + i / 2 + " " + i % 2, m.earth(i / 2, i % 2));
        for (int i = 0; i < 4; i++) {
            see(seen, "span 0 1 " + i, m.span(0, 1, 900, i));
            see(seen, "span 2 3 " + i, m.span(2, 3, 700, i));
        }
    }

    private static void decrees(OneMeasure m, List<String> seen) {
        see(seen, "fault", m.fault());
        int[] days = {0, 7, 9, 25, 71};
        for (int day : days) {
            see(seen, "let " + day, m.let(1, 1, day));
            see(seen, "why " + day, m.why(1, 1, day));
            see(seen, "means " + day, m.means(0, 1, day, 0));
            see(seen, "sure " + day, m.means(0, 1, day, 1));
            for (int i = 0; i < 4; i++) see(seen, "owed " + i / 2 + " " + day, m.owed(i / 2, day, i % 2));
        }
        see(seen, "quarrels", m.quarrels(1, 1, 0));
        see(seen, "first quarrel", m.quarrels(1, 1, 1));
        for (int i = 0; i < 2; i++) see(seen, "gained " + i, m.gained(i, 25));
    }

    private static void market(OneMeasure m, List<String> seen) {
        for (int i = 0; i < 16; i++) see(seen, "rodTold " + i / 4 + " " + i % 4, m.rodTold(i / 4, i % 4));
        for (int i = 0; i < 12; i++) see(seen, "cheated " + i / 2 + " " + i % 2, m.cheated(i / 2, i % 2));
        for (int i = 0; i < 18; i++) see(seen, "uses " + i / 3 + " " + i % 3, m.uses(i / 3, i % 3));
        see(seen, "week", m.count(8));
        see(seen, "rounds", m.rounds(3, 2, -1));
    }

    /** What only shows when something is told. */
    private static void rest(OneMeasure m, List<String> seen) {
        for (int i = 0; i < 10; i++) see(seen, "plan " + i, m.plan(i, i == 0 ? 63 : 0));
        see(seen, "weeks", m.weeks(1));
        see(seen, "seasons", m.seasons(2));
        market(m, seen);
        see(seen, "allowed", m.allowed(20));
        for (int left = 0; left < 2; left++) {
            see(seen, "back", m.back());
            market(m, seen);
            see(seen, "seasons", m.seasons(2));
        }
        see(seen, "rod", m.rod(0, 0, 0, 0, 0));
        see(seen, "paper", m.paper(0, 0, 0, 1, 0));
        see(seen, "chain", m.chain(0, 3, 7));
        see(seen, "girth", m.earth(2, 0));
        see(seen, "trial", m.trial(0, 1, 9, 10, 49));
        see(seen, "span", m.span(0, 1, 900, 0));
        see(seen, "unit", m.unit(0, 5, 0));
        // ends the ITEM that told() has begun: ",0,5,5;"
        see(seen, "write", m.write(7, 0x2c302c352c353bL));
        see(seen, "fault", m.fault());
        see(seen, "force", m.force());
        see(seen, "why 0", m.why(0, 0, 3));
        see(seen, "why 1", m.why(1, 0, 5));
        see(seen, "let", m.let(0, 0, 3));
        see(seen, "clear", m.clear());
    }
}
