import java.util.ArrayDeque;
import java.util.ArrayList;
import java.util.Arrays;
import java.util.Deque;
import java.util.List;

/**
 * Long runs of calls, drawn by a fixed rule, on OneMeasure and on a slow model that follows the
 * document's words as they stand: days one by one, plans all tried, sizes all counted.
 */
public final class ModelTest {
    private static final int RUNS = 36;
    private static final int CALLS = 512;
    private static final String[] NAMES = {"unit", "table", "turn", "lost", "best", "chain", "earth", "trial", "span",
        "write", "clear", "fault", "force", "let", "why", "quarrels", "means", "paper", "owed", "gained", "rod",
        "allowed", "plan", "weeks", "rodTold", "cheated", "rounds", "people", "seasons", "uses", "keep", "back",
        "count"};

    private static final int WRITE = 9, CLEAR = 10, FAULT = 11, FORCE = 12;

    private static long seed = 20261118L;
    private static int sorts = 2;

    private static int draw(int bound) {
        seed = seed * 6364136223846793005L + 1442695040888963407L;
        return (int) ((seed >>> 33) % bound);
    }

    /** From least to most, now and then one beside them. */
    private static int pick(int least, int most) {
        int r = draw(60);
        if (r == 0) return least - 1;
        if (r == 1) return most + 1;
        if (r == 2) return least;
        if (r == 3) return most;
        return least + draw(most - least + 1);
    }

    public static void main(String[] args) {
        for (int run = 0; run < RUNS; run++) {
            if (!agrees(run)) {
                System.exit(1);
            }
        }
        System.out.println(RUNS + " runs agree with the model");
    }

    private static boolean agrees(int run) {
        OneMeasure real = new OneMeasure();
        Model model = new Model();
        StringBuilder told = new StringBuilder();
        Deque<long[]> waiting = new ArrayDeque<>();
        // in some runs all units are of one sort, so that tables and trials are seldom refused
        sorts = run % 4 == 0 ? 0 : run % 4 == 1 ? 1 : 2;
        for (int i = 0; i < CALLS; i++) {
            if (waiting.isEmpty()) drawCalls(i, run % 6, model, waiting);
            long[] next = waiting.remove();
            int call = (int) next[0];
            long[] a = Arrays.copyOfRange(next, 1, next.length);
            long got = ask(real, call, a);
            long want = model.answer(NAMES[call], a);
            told.append(NAMES[call]).append(Arrays.toString(a)).append(" -> ").append(got).append('\n');
            if (got != want) {
                System.out.println(told + "run " + run + ", call " + i + ": due is " + want);
                return false;
            }
        }
        return true;
    }

    private static void drawCalls(int i, int bias, Model model, Deque<long[]> waiting) {
        int call = i < 6 ? 0 : choose(bias);
        if (call == WRITE) {
            drawText(waiting);
            return;
        }
        long[] a = arguments(call, model);
        long[] next = new long[a.length + 1];
        next[0] = call;
        System.arraycopy(a, 0, next, 1, a.length);
        waiting.add(next);
    }

    private static int choose(int bias) {
        int[][] often = {{1, 1, 1, 2, 3, 4}, {7, 7, 8, 8, 5, 6}, {WRITE, 12, 13, 13, 14, 14, 15, 15, 16, 16, 16, 11},
            {WRITE, 17, 18, 18, 18, 18, 19, 19, 19, 19}, {20, 20, 22, 22, 23, 24, 25, 26, 26, 21, 30, 31, WRITE},
            {27, 28, 29, 30, 31, 20, 23}};
        int[] row = often[bias];
        return draw(4) == 0 ? draw(33) : row[draw(row.length)];
    }

    /** Some items by pieces, mostly behind a clear text and then put in force; now and then with a broken byte. */
    private static void drawText(Deque<long[]> waiting) {
        StringBuilder text = new StringBuilder();
        int items = 1 + draw(draw(10) == 0 ? 40 : 12);
        for (int i = 0; i < items; i++) text.append(item());
        if (draw(8) == 0) text.setCharAt(draw(text.length()), (char) draw(256));
        if (draw(8) == 0) text.setLength(draw(text.length()));
        if (draw(6) > 0) waiting.add(new long[] {CLEAR});
        int n;
        for (int at = 0; at < text.length(); at += n) {
            n = Math.min(draw(3) == 0 ? 1 + draw(8) : 8, text.length() - at);
            long v = draw(9) == 0 ? draw(200) : 0;
            for (int i = 0; i < n; i++) v = v << 8 | text.charAt(at + i);
            waiting.add(new long[] {WRITE, draw(400) == 0 ? 9 * draw(2) : n, v});
        }
        waiting.add(new long[] {FAULT});
        if (draw(10) > 0) waiting.add(new long[] {FORCE});
    }

    private static String item() {
        int day = draw(30);
        int end = draw(10) == 0 ? 9999 : day + draw(40);
        if (draw(200) == 0) end = day - 1;
        String days = day + "," + Math.max(0, end) + ";";
        int d = draw(300) == 0 ? 6 : aDistrict();
        int u = draw(300) == 0 ? 16 : aUnit();
        switch (draw(200) == 0 ? 4 : draw(4)) {
            case 0: return "a" + u + "," + d + "," + days;
            case 1: return "b" + u + "," + d + "," + days;
            case 2: return "n" + draw(2) + "," + u + "," + d + "," + day + ";";
            case 3: return "h" + d + "," + draw(2) + "," + days;
            default: return "x" + days;
        }
    }

    private static long[] arguments(int call, Model m) {
        int u = Math.max(1, m.units.size());
        switch (NAMES[call]) {
            case "unit": {
                int sort = sorts == 2 ? pick(0, 1) : sorts;
                return row(sort, draw(3) == 0 ? pick(1, 1000000) : pick(1, 1200), sort == 0 ? draw(20) / 19 : pick(0, 100));
            }
            case "table": return row(pick(0, u - 1), pick(0, u - 1), ratio(), ratio(), pick(0, 3));
            case "turn": case "lost": return row(pick(0, u - 1), pick(0, u - 1), pick(0, 1000000000));
            case "best": return row(draw(8) == 0 ? wild() : pick(-2, 3));
            case "chain": return row(pick(0, 1), pick(1, draw(2) == 0 ? 1000000 : 30), pick(1, draw(2) == 0 ? 1000 : 9));
            case "earth": return row(pick(0, 4), pick(0, 1));
            case "trial": return near(pick(0, u - 1), pick(0, u - 1), m);
            case "span": return row(pick(0, u - 1), pick(0, u - 1), draw(2) == 0 ? pick(1, 1000000) : pick(1, 1200), pick(0, 3));
            case "let": case "why": return row(aUnit(), aDistrict(), day());
            case "quarrels": return row(aUnit(), aDistrict(), pick(0, 1));
            case "means": return row(draw(8) == 0 ? pick(0, 9) : draw(2), aDistrict(), day(), pick(0, 1));
            case "paper": return row(aDistrict(), draw(8) == 0 ? pick(0, 9) : draw(2), day(), pick(1, 1000000), pick(0, 2));
            case "owed": return row(pick(0, Math.max(0, m.papers.size() - 1)), draw(4) == 0 ? -1 : day(), pick(0, 1));
            case "gained": return row(pick(0, Math.max(0, m.papers.size() - 1)), day());
            case "rod": return row(pick(0, u - 1), draw(2) == 0 ? pick(0, 5) : aDistrict(), draw(2) == 0 ? pick(-200, 200) : pick(-30, 30), pick(0, 20), pick(0, 1000));
            case "allowed": return row(draw(2) == 0 ? pick(0, 200) : pick(0, 30));
            case "plan": return row(draw(2) == 0 ? pick(0, 9) : 0, pick(0, 63));
            case "weeks": return row(draw(3) == 0 ? pick(1, 20) : pick(1, 3));
            case "rodTold": return row(pick(0, Math.max(0, m.state.rods.size() - 1)), pick(0, 3));
            case "cheated": return row(pick(0, 5), pick(0, 1));
            case "rounds": {
                int w = draw(10) == 0 ? pick(1, 4) : 1 + draw(3);
                int k = w == 4 && draw(10) > 0 ? 1 : pick(1, 2);
                return row(w, k, pick(-1, Math.max(0, w - 1)));
            }
            case "people": return row(pick(0, 5), pick(0, 60000), pick(0, 50000), pick(0, draw(2) == 0 ? 500 : 5), pick(0, draw(2) == 0 ? 500 : 5));
            case "seasons": return row(draw(2) == 0 ? pick(1, 100) : pick(1, 3));
            case "uses": return row(pick(0, 5), pick(0, 2));
            case "count": return row(pick(0, 10));
            default: return new long[0];
        }
    }

    private static int wild() {
        return (draw(2) == 0 ? 1 : -1) * draw(Integer.MAX_VALUE);
    }

    private static int aUnit() {
        return draw(60) == 0 ? pick(0, 15) : draw(3);
    }

    private static int aDistrict() {
        return draw(60) == 0 ? pick(0, 5) : draw(10) / 7;
    }

    private static int ratio() {
        return draw(3) == 0 ? pick(1, 10000) : 1 + draw(12);
    }

    private static int day() {
        return draw(6) == 0 ? pick(0, 9999) : draw(60);
    }

    /** A trial that is mostly near to the truth. */
    private static long[] near(int a, int b, Model m) {
        int x = pick(1, 10000);
        int y = pick(1, 10000);
        if (draw(5) > 0 && m.unit(a) && m.unit(b)) {
            x = 1 + draw(50);
            y = (int) Math.max(1, Math.min(10000, m.units.get(a)[1] * x / m.units.get(b)[1]));
        }
        return row(a, b, x, y, draw(2) == 0 ? pick(0, 1000000) : pick(0, 3000));
    }

    private static long[] row(long... numbers) {
        return numbers;
    }

    private static long ask(OneMeasure m, int call, long[] a) {
        int[] n = new int[5];
        for (int i = 0; i < a.length; i++) n[i] = (int) a[i];
        switch (NAMES[call]) {
            case "unit": return m.unit(n[0], n[1], n[2]);
            case "table": return m.table(n[0], n[1], n[2], n[3], n[4]);
            case "turn": return m.turn(n[0], n[1], n[2]);
            case "lost": return m.lost(n[0], n[1], n[2]);
            case "best": return m.best(n[0]);
            case "chain": return m.chain(n[0], n[1], n[2]);
            case "earth": return m.earth(n[0], n[1]);
            case "trial": return m.trial(n[0], n[1], n[2], n[3], n[4]);
            case "span": return m.span(n[0], n[1], n[2], n[3]);
            case "write": return m.write(n[0], a[1]);
            case "clear": return m.clear();
            case "fault": return m.fault();
            case "force": return m.force();
            case "let": return m.let(n[0], n[1], n[2]);
            case "why": return m.why(n[0], n[1], n[2]);
            case "quarrels": return m.quarrels(n[0], n[1], n[2]);
            case "means": return m.means(n[0], n[1], n[2], n[3]);
            case "paper": return m.paper(n[0], n[1], n[2], n[3], n[4]);
            case "owed": return m.owed(n[0], n[1], n[2]);
            case "gained": return m.gained(n[0], n[1]);
            case "rod": return m.rod(n[0], n[1], n[2], n[3], n[4]);
            case "allowed": return m.allowed(n[0]);
            case "plan": return m.plan(n[0], n[1]);
            case "weeks": return m.weeks(n[0]);
            case "rodTold": return m.rodTold(n[0], n[1]);
            case "cheated": return m.cheated(n[0], n[1]);
            case "rounds": return m.rounds(n[0], n[1], n[2]);
            case "people": return m.people(n[0], n[1], n[2], n[3], n[4]);
            case "seasons": return m.seasons(n[0]);
            case "uses": return m.uses(n[0], n[1]);
            case "keep": return m.keep();
            case "back": return m.back();
            default: return m.count(n[0]);
        }
    }

    /** What is KEPT. */
    private static final class State {
        // unit, district, off, wear, sales, sealed, seized
        final List<long[]> rods = new ArrayList<>();
        // of each rod: week, off for each week of sales
        final List<List<long[]>> sold = new ArrayList<>();
        int week = 0;
        final long[] cheated = new long[6];
        final long[] won = new long[6];
        final long[][] people = new long[6][4];

        State copy() {
            State s = new State();
            for (long[] r : rods) s.rods.add(r.clone());
            for (List<long[]> h : sold) s.sold.add(new ArrayList<>(h));
            s.week = week;
            for (int d = 0; d < 6; d++) {
                s.cheated[d] = cheated[d];
                s.won[d] = won[d];
                s.people[d] = people[d].clone();
            }
            return s;
        }
    }

    private static final class Model {
        final List<long[]> units = new ArrayList<>();
        final long[][][] tables = new long[16][16][];
        final List<long[]> chains = new ArrayList<>();
        final List<long[]> trials = new ArrayList<>();
        String text = "";
        List<String[]> items = new ArrayList<>();
        final List<long[]> papers = new ArrayList<>();
        State state = new State();
        final List<State> kept = new ArrayList<>();
        final int[] plan = new int[10];
        long allowed = 20;

        boolean unit(long u) {
            return u >= 0 && u < units.size();
        }

        private static boolean in(long v, long a, long b) {
            return a <= v && v <= b;
        }

        private static boolean district(long d) {
            return in(d, 0, 5);
        }

        private static boolean day(long d) {
            return in(d, 0, 9999);
        }

        private long sort(long u) {
            return units.get((int) u)[0];
        }

        long answer(String call, long[] a) {
            switch (call) {
                case "unit":
                    if (!in(a[0], 0, 1) || !in(a[1], 1, 1000000) || !in(a[2], 0, 100) || a[0] == 0 && a[2] != 0) return -1;
                    if (units.size() == 16) return -3;
                    units.add(a);
                    return units.size() - 1;
                case "table":
                    if (!unit(a[0]) || !unit(a[1]) || a[0] == a[1] || !in(a[2], 1, 10000) || !in(a[3], 1, 10000) || !in(a[4], 0, 3)) return -1;
                    if (sort(a[0]) != sort(a[1])) return -2;
                    tables[(int) a[0]][(int) a[1]] = a;
                    return 0;
                case "turn":
                    if (!unit(a[0]) || !unit(a[1]) || !in(a[2], 0, 1000000000)) return -1;
                    return turned(a[0], a[1], a[2]) < 0 ? -2 : turned(a[0], a[1], a[2]);
                case "lost":
                    if (!unit(a[0]) || !unit(a[1]) || !in(a[2], 0, 1000000000)) return -1000000000000L;
                    if (turned(a[0], a[1], 1) < 0 || turned(a[1], a[0], 1) < 0) return -1000000000002L;
                    return a[2] - turned(a[1], a[0], turned(a[0], a[1], a[2]));
                case "best": return best(a[0]);
                case "chain":
                    if (!in(a[0], 0, 1) || !in(a[1], 1, 1000000) || !in(a[2], 1, 1000)) return -1;
                    if (chains.size() == 12) return -3;
                    chains.add(a);
                    return chains.size();
                case "earth": return earth(a);
                case "trial":
                    if (!unit(a[0]) || !unit(a[1]) || !in(a[2], 1, 10000) || !in(a[3], 1, 10000) || !in(a[4], 0, 1000000)) return -1;
                    if (a[0] == a[1] || sort(a[0]) != sort(a[1])) return -2;
                    if (trials.size() == 30) return -3;
                    trials.add(a);
                    return trials.size();
                case "span": return span(a);
                default: return answerOfDecrees(call, a);
            }
        }

        private long turned(long from, long to, long x) {
            long[] t = tables[(int) from][(int) to];
            if (t == null) return -1;
            long whole = x * t[2] / t[3];
            long step = new long[] {1000, 100, 10, 1}[(int) t[4]];
            return whole / step * step;
        }

        private long best(long i) {
            if (i < -2) return -1;
            long most = -1;
            int[] row = {};
            for (int n = 2; n <= 4; n++) {
                int[] now = new int[n];
                while (true) {
                    long end = round(now);
                    if (end > most) {
                        most = end;
                        row = now.clone();
                    }
                    int at = n - 1;
                    while (at >= 0 && now[at] == Math.max(0, units.size() - 1)) now[at--] = 0;
                    if (at < 0) break;
                    now[at]++;
                }
            }
            if (row.length == 0) return -4;
            if (i == -1) return most;
            if (i == -2) return row.length;
            return i < row.length ? row[(int) i] : -4;
        }

        private long round(int[] row) {
            long x = 1000000;
            for (int i = 0; i < row.length; i++) {
                for (int j = 0; j < i; j++) if (row[i] == row[j]) return -1;
            }
            for (int i = 0; i < row.length; i++) {
                x = turned(row[i], row[(i + 1) % row.length], x);
                if (x < 0 || x > 1000000000000L) return -1;
            }
            return x;
        }

        private long earth(long[] a) {
            if (!in(a[0], 0, 4) || !in(a[1], 0, 1)) return -1;
            java.math.BigInteger yards = java.math.BigInteger.ZERO;
            long angle = 0;
            for (long[] c : chains) {
                if (a[0] < 2 && c[0] != a[0]) continue;
                yards = yards.add(java.math.BigInteger.valueOf(c[1]));
                angle += c[2];
            }
            if (angle == 0) return -4;
            java.math.BigInteger up = yards.multiply(java.math.BigInteger.valueOf(40000));
            java.math.BigInteger down = java.math.BigInteger.valueOf(angle);
            if (a[0] == 3) down = down.multiply(java.math.BigInteger.valueOf(40000000));
            if (a[0] == 4) {
                up = java.math.BigInteger.valueOf(-1);
                for (long[] c : chains) {
                    for (long[] d : chains) {
                        java.math.BigInteger u = java.math.BigInteger.valueOf(c[1] * d[2] - d[1] * c[2]);
                        java.math.BigInteger v = java.math.BigInteger.valueOf(c[2] * d[2]);
                        if (u.multiply(down).compareTo(up.multiply(v)) > 0) {
                            up = u;
                            down = v;
                        }
                    }
                }
            }
            java.math.BigInteger g = up.gcd(down);
            return (a[1] == 0 ? up : down).divide(g).longValue();
        }

        private boolean suits(long u, long v, long s, long size) {
            for (long[] t : trials) {
                if (t[0] == u && t[1] == v && Math.abs(t[2] * size - t[3] * s) > t[4]) return false;
                if (t[0] == v && t[1] == u && Math.abs(t[2] * s - t[3] * size) > t[4]) return false;
            }
            return true;
        }

        private long span(long[] a) {
            if (!unit(a[0]) || !unit(a[1]) || !in(a[2], 1, 1000000) || !in(a[3], 0, 3)) return -1;
            if (a[0] == a[1] || sort(a[0]) != sort(a[1])) return -2;
            long least = 0;
            long greatest = 0;
            for (long size = 1; size <= 1000000; size++) {
                if (!suits(a[0], a[1], a[2], size)) continue;
                if (least == 0) least = size;
                greatest = size;
            }
            if (least == 0) return -4;
            if (a[3] < 2) return a[3] == 0 ? least : greatest;
            return parting(a[0], a[1], a[2], least, greatest)[(int) a[3] - 2];
        }

        private long[] parting(long u, long v, long s, long least, long greatest) {
            long fewest = Long.MAX_VALUE;
            long[] found = {0, 0};
            for (long x = 1; x <= 10; x++) {
                for (long y = 1; y <= 10; y++) {
                    long all = greatest - least + 1;
                    long over = all;
                    // counted up to the first that is above: all behind it are so too
                    for (long size = least; size <= greatest && x * size <= y * s; size++) over--;
                    long left = Math.max(over, all - over);
                    if (left < fewest) {
                        fewest = left;
                        found = new long[] {x, y};
                    }
                }
            }
            return found;
        }

        private long answerOfDecrees(String call, long[] a) {
            switch (call) {
                case "write":
                    if (!in(a[0], 1, 8)) return -1;
                    if (text.length() + a[0] > 300) return -3;
                    for (long i = a[0] - 1; i >= 0; i--) text += (char) (a[1] >> (8 * i) & 255);
                    return text.length();
                case "clear": {
                    int was = text.length();
                    text = "";
                    return was;
                }
                case "fault": return fault();
                case "force":
                    if (fault() >= 0) return -2;
                    items = new ArrayList<>();
                    for (String s : text.split(";")) if (!s.isEmpty()) items.add((s.charAt(0) + "," + s.substring(1)).split(","));
                    return items.size();
                case "let": case "why":
                    if (!in(a[0], 0, 15) || !district(a[1]) || !day(a[2])) return -1;
                    return call.equals("let") ? let(a[0], a[1], a[2]) ? 1 : 0 : why(a[0], a[1], a[2]);
                case "quarrels": return quarrels(a);
                case "means":
                    if (!in(a[0], 0, 9) || !district(a[1]) || !day(a[2]) || !in(a[3], 0, 1)) return -1;
                    return a[3] == 0 ? means(a[0], a[1], a[2]) : sure(a[0], a[1], a[2]);
                case "paper":
                    if (!district(a[0]) || !in(a[1], 0, 9) || !day(a[2]) || !in(a[3], 1, 1000000) || !in(a[4], 0, 2)) return -1;
                    if (papers.size() == 10) return -3;
                    papers.add(a);
                    return papers.size() - 1;
                case "owed": {
                    if (!in(a[0], 0, papers.size() - 1) || !in(a[1], -1, 9999) || !in(a[2], 0, 1)) return -1;
                    long[] rents = rents(papers.get((int) a[0]), a[1] == -1 ? papers.get((int) a[0])[2] : a[1]);
                    return rents.length == 0 ? -4 : rents[a[2] == 0 ? 0 : rents.length - 1];
                }
                case "gained": {
                    if (!in(a[0], 0, papers.size() - 1) || !day(a[1])) return -1000000000000000L;
                    long[] p = papers.get((int) a[0]);
                    long[] now = rents(p, a[1]);
                    long[] then = rents(p, p[2]);
                    return now.length == 0 || then.length == 0 ? -1000000000000004L : now[now.length - 1] - then[0];
                }
                default: return answerOfRods(call, a);
            }
        }

        private int fault() {
            int at = 0;
            while (at < text.length()) {
                int end = text.indexOf(';', at);
                if (end < 0 || !sound(text.substring(at, end))) return at;
                at = end + 1;
            }
            return -4;
        }

        private static boolean sound(String item) {
            if (!item.matches("[abnh][0-9]{1,4},[0-9]{1,4},[0-9]{1,4},[0-9]{1,4}")) return false;
            String[] n = item.substring(1).split(",");
            int[] v = new int[4];
            for (int i = 0; i < 4; i++) v[i] = Integer.parseInt(n[i]);
            if (item.charAt(0) == 'n') return v[0] < 10 && v[1] < 16 && v[2] < 6;
            if (item.charAt(0) == 'h') return v[0] < 6 && v[1] < 2 && v[2] <= v[3];
            return v[0] < 16 && v[1] < 6 && v[2] <= v[3];
        }

        private static long number(String[] item, int i) {
            return Long.parseLong(item[i + 1]);
        }

        private boolean tells(String[] item, String letter, long u, long d, long day) {
            return item[0].equals(letter) && number(item, 0) == u && number(item, 1) == d && in(day, number(item, 2), number(item, 3));
        }

        private int why(long u, long d, long day) {
            int found = -4;
            for (int i = 0; i < items.size(); i++) {
                if (tells(items.get(i), "a", u, d, day) || tells(items.get(i), "b", u, d, day)) found = i;
            }
            return found;
        }

        private boolean let(long u, long d, long day) {
            int i = why(u, d, day);
            return i < 0 || items.get(i)[0].equals("a");
        }

        private long quarrels(long[] a) {
            if (!in(a[0], 0, 15) || !district(a[1]) || !in(a[2], 0, 1)) return -1;
            int days = 0;
            int first = -4;
            for (int day = 0; day < 10000; day++) {
                boolean yes = false;
                boolean no = false;
                for (String[] item : items) {
                    yes |= tells(item, "a", a[0], a[1], day);
                    no |= tells(item, "b", a[0], a[1], day);
                }
                if (!yes || !no) continue;
                if (days == 0) first = day;
                days++;
            }
            return a[2] == 0 ? days : first;
        }

        private long means(long w, long d, long day) {
            long bits = 0;
            for (String[] n : items) {
                if (n[0].equals("n") && number(n, 0) == w && number(n, 2) == d && number(n, 3) <= day) bits |= 1L << number(n, 1);
            }
            return bits;
        }

        private long sure(long w, long d, long day) {
            long bits = means(w, d, day);
            if (Long.bitCount(bits) == 1) return Long.numberOfTrailingZeros(bits);
            long latest = -1;
            long unit = -4;
            for (String[] n : items) {
                if (!n[0].equals("n") || number(n, 0) != w || number(n, 2) != d || number(n, 3) > day) continue;
                if (number(n, 3) < latest) continue;
                latest = number(n, 3);
                unit = number(n, 1);
            }
            for (int u = 0; u < 16; u++) {
                if (u != unit && (bits >> u & 1) == 1 && let(u, d, day)) return -4;
            }
            return unit;
        }

        /** All rents that can be owed, the least first. */
        private long[] rents(long[] p, long day) {
            List<Long> all = new ArrayList<>();
            long bits = means(p[1], p[0], day);
            for (int u = 0; u < units.size(); u++) {
                if ((bits >> u & 1) == 0) continue;
                long[] unit = units.get(u);
                boolean heaped = p[4] == 0;
                boolean struck = p[4] == 1;
                if (p[4] == 2) {
                    heaped = true;
                    struck = true;
                    for (String[] h : items) {
                        if (!h[0].equals("h") || number(h, 0) != p[0] || !in(day, number(h, 2), number(h, 3))) continue;
                        heaped = number(h, 1) == 1;
                        struck = !heaped;
                    }
                }
                if (unit[0] == 0) {
                    heaped = false;
                    struck = true;
                }
                if (struck) all.add(p[3] * unit[1] / 1000);
                if (heaped) all.add(p[3] * unit[1] * (100 + unit[2]) / 100 / 1000);
            }
            return all.stream().mapToLong(Long::longValue).sorted().toArray();
        }

        private long answerOfRods(String call, long[] a) {
            switch (call) {
                case "rod":
                    if (!unit(a[0]) || !district(a[1]) || !in(a[2], -200, 200) || !in(a[3], 0, 20) || !in(a[4], 0, 1000)) return -1;
                    if (state.rods.size() == 12) return -3;
                    state.rods.add(new long[] {a[0], a[1], a[2], a[3], a[4], 0, 0});
                    state.sold.add(new ArrayList<>());
                    return state.rods.size() - 1;
                case "allowed": {
                    if (!in(a[0], 0, 200)) return -1;
                    long was = allowed;
                    allowed = a[0];
                    return was;
                }
                case "plan": {
                    if (!in(a[0], 0, 9) || !in(a[1], 0, 63)) return -1;
                    int was = plan[(int) a[0]];
                    plan[(int) a[0]] = (int) a[1];
                    return was;
                }
                case "weeks":
                    if (!in(a[0], 1, 20)) return -1;
                    if (state.week + a[0] > 100) return -3;
                    for (int i = 0; i < a[0]; i++) {
                        week(state, plan[0]);
                        System.arraycopy(plan, 1, plan, 0, 9);
                        plan[9] = 0;
                    }
                    return state.week;
                case "rodTold":
                    if (!in(a[0], 0, state.rods.size() - 1) || !in(a[1], 0, 3)) return -10000;
                    if (a[1] < 3) return state.rods.get((int) a[0])[a[1] == 0 ? 2 : a[1] == 1 ? 5 : 6];
                    for (long[] sale : state.sold.get((int) a[0])) if (Math.abs(sale[1]) > allowed) return sale[0];
                    return -1000;
                case "cheated":
                    if (!district(a[0]) || !in(a[1], 0, 1)) return -1;
                    return (a[1] == 0 ? state.cheated : state.won)[(int) a[0]];
                case "rounds":
                    if (!in(a[0], 1, 4) || !in(a[1], 1, 2) || !in(a[2], -1, a[0] - 1)) return -1;
                    fewest = Long.MAX_VALUE;
                    tryAll(state, new int[(int) a[0]], 0, (int) a[1]);
                    return a[2] == -1 ? fewest : bestSets[(int) a[2]];
                default: return answerOfPeople(call, a);
            }
        }

        private void week(State s, int visited) {
            for (int i = 0; i < s.rods.size(); i++) {
                long[] r = s.rods.get(i);
                if (r[6] == 1) continue;
                long size = units.get((int) r[0])[1];
                if (r[2] < 0) s.cheated[(int) r[1]] += r[4] * size * -r[2] / 1000;
                if (r[2] > 0) s.won[(int) r[1]] += r[4] * size * r[2] / 1000;
                if (r[4] > 0) s.sold.get(i).add(new long[] {s.week, r[2]});
                r[2] = Math.max(-500, r[2] - r[3]);
            }
            for (long[] r : s.rods) {
                if (r[6] == 1 || (visited >> r[1] & 1) == 0) continue;
                if (Math.abs(r[2]) > allowed || !let(r[0], r[1], 7 * s.week)) r[6] = 1;
                else r[5] = 1;
            }
            s.week++;
        }

        private long fewest;
        private int[] bestSets;

        private void tryAll(State from, int[] sets, int at, int k) {
            if (at == sets.length) {
                long sum = 0;
                for (int d = 0; d < 6; d++) sum += from.cheated[d] - state.cheated[d];
                if (sum < fewest) {
                    fewest = sum;
                    bestSets = sets.clone();
                }
                return;
            }
            for (int set = 0; set < 64; set++) {
                if (Integer.bitCount(set) > k) continue;
                sets[at] = set;
                State next = from.copy();
                week(next, set);
                tryAll(next, sets, at + 1, k);
            }
        }

        private long answerOfPeople(String call, long[] a) {
            switch (call) {
                case "people":
                    if (!district(a[0]) || !in(a[1], 0, 100000) || !in(a[2], 0, 100000) || a[1] + a[2] > 100000) return -1;
                    if (!in(a[3], 0, 500) || !in(a[4], 0, 500)) return -1;
                    state.people[(int) a[0]] = new long[] {a[1], a[2], a[3], a[4]};
                    return 0;
                case "seasons": {
                    if (!in(a[0], 1, 100)) return -1;
                    long sum = 0;
                    for (long[] p : state.people) {
                        for (int i = 0; i < a[0]; i++) season(p);
                        sum += p[1];
                    }
                    return sum;
                }
                case "uses": {
                    if (!district(a[0]) || !in(a[1], 0, 2)) return -1;
                    long[] p = state.people[(int) a[0]].clone();
                    if (a[1] < 2) return p[(int) a[1]];
                    for (int i = 0; i <= 400; i++) {
                        if (p[1] >= p[0]) return i;
                        season(p);
                    }
                    return -4;
                }
                case "keep":
                    if (kept.size() == 2) return -3;
                    kept.add(state.copy());
                    return kept.size();
                case "back":
                    if (kept.isEmpty()) return -2;
                    state = kept.remove(kept.size() - 1);
                    return kept.size();
                default: return count(a[0]);
            }
        }

        private static void season(long[] p) {
            long learn = p[0] * (p[2] + p[3]) / 1000;
            p[0] -= learn;
            p[1] += learn;
            if (p[1] >= p[0]) return;
            long forget = p[1] * 5 / 1000;
            p[0] += forget;
            p[1] -= forget;
        }

        private long count(long what) {
            long told = 0;
            for (long[][] row : tables) for (long[] t : row) if (t != null) told++;
            long seized = 0;
            for (long[] r : state.rods) seized += r[6];
            long[] all = {units.size(), told, chains.size(), trials.size(), text.length(), items.size(), papers.size(),
                state.rods.size(), state.week, seized, kept.size()};
            return in(what, 0, 10) ? all[(int) what] : -1;
        }
    }
}
