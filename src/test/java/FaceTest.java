import java.lang.reflect.Constructor;
import java.lang.reflect.Field;
import java.lang.reflect.Method;
import java.lang.reflect.Modifier;
import java.nio.file.Files;
import java.nio.file.Path;
import java.util.Arrays;
import java.util.Set;
import java.util.TreeSet;
import java.util.regex.Matcher;
import java.util.regex.Pattern;

/** The public face as the document has it, no call that throws, and the rules of LANGUAGE.md that a test can see. */
public final class FaceTest {
    private static final String[] FACE = {
        "int unit(int,int,int)", "int table(int,int,int,int,int)", "long turn(int,int,int)", "long lost(int,int,int)",
        "long best(int)", "int chain(int,int,int)", "long earth(int,int)", "int trial(int,int,int,int,int)",
        "int span(int,int,int,int)", "int write(int,long)", "int clear()", "int fault()", "int force()",
        "int let(int,int,int)", "int why(int,int,int)", "int quarrels(int,int,int)", "int means(int,int,int,int)",
        "int paper(int,int,int,int,int)", "long owed(int,int,int)", "long gained(int,int)",
        "int rod(int,int,int,int,int)", "int allowed(int)", "int plan(int,int)", "int weeks(int)",
        "int rodTold(int,int)", "long cheated(int,int)", "long rounds(int,int,int)", "int people(int,int,int,int,int)",
        "int seasons(int)", "int uses(int,int)", "int keep()", "int back()", "int count(int)"};
    private static final String[] CONSTANTS = {"BAD", "NO", "FULL", "NONE"};
    private static int wrong = 0;

    private static void due(boolean holds, String what) {
        if (holds) return;
        wrong++;
        System.out.println("not so: " + what);
    }

    public static void main(String[] args) throws Exception {
        face();
        constants();
        anyArguments();
        source();
        System.out.println(wrong == 0 ? "the face is as due" : wrong + " are not as due");
        if (wrong != 0) System.exit(1);
    }

    private static String told(Method m) {
        StringBuilder s = new StringBuilder(m.getReturnType() + " " + m.getName() + "(");
        for (Class<?> p : m.getParameterTypes()) s.append(s.charAt(s.length() - 1) == '(' ? "" : ",").append(p);
        return s.append(")").toString();
    }

    private static void face() {
        Set<String> open = new TreeSet<>();
        Set<String> names = new TreeSet<>();
        for (Method m : OneMeasure.class.getDeclaredMethods()) {
            if (Modifier.isPrivate(m.getModifiers())) continue;
            due(Modifier.isPublic(m.getModifiers()) && !Modifier.isStatic(m.getModifiers()), "public: " + m);
            open.add(told(m));
            names.add(m.getName());
        }
        due(open.equals(new TreeSet<>(Arrays.asList(FACE))), "the methods of the document: " + open);
        Constructor<?>[] made = OneMeasure.class.getDeclaredConstructors();
        due(made.length == 1 && made[0].getParameterCount() == 0 && Modifier.isPublic(made[0].getModifiers()), "one constructor");
        due(Modifier.isFinal(OneMeasure.class.getModifiers()), "final");
        for (Method m : OneMeasure.class.getDeclaredMethods()) {
            due(!Modifier.isPrivate(m.getModifiers()) || !names.contains(m.getName()), "its own name: " + m);
        }
        Class<?>[] inside = OneMeasure.class.getDeclaredClasses();
        due(inside.length <= 12, "twelve classes at most");
        for (Class<?> c : inside) {
            due(Modifier.isStatic(c.getModifiers()) && !Modifier.isPublic(c.getModifiers()), "static, not public: " + c);
            for (Method m : c.getDeclaredMethods()) due(!names.contains(m.getName()), "its own name: " + m);
        }
    }

    private static void constants() throws Exception {
        for (Field f : OneMeasure.class.getDeclaredFields()) {
            boolean named = Arrays.asList(CONSTANTS).contains(f.getName());
            due(named ? Modifier.isPublic(f.getModifiers()) : Modifier.isPrivate(f.getModifiers()), "as open as told: " + f);
            due(!Modifier.isStatic(f.getModifiers()) || Modifier.isFinal(f.getModifiers()), "final: " + f);
        }
        for (int i = 0; i < 4; i++) due(OneMeasure.class.getField(CONSTANTS[i]).getInt(null) == -1 - i, CONSTANTS[i]);
    }

    /** Whatever the numbers are, and in whatever state, a call comes back. */
    private static void anyArguments() throws Exception {
        int[] edges = {0, 1, 2, -1, 3, 5, 6, 9, 10, 12, 15, 16, 20, 63, 100, 1000, 10000, 1000000, Integer.MAX_VALUE, Integer.MIN_VALUE};
        long seed = 7;
        Method[] calls = Arrays.stream(OneMeasure.class.getDeclaredMethods())
            .filter(m -> Modifier.isPublic(m.getModifiers())).sorted((a, b) -> told(a).compareTo(told(b))).toArray(Method[]::new);
        for (int run = 0; run < 300; run++) {
            OneMeasure m = new OneMeasure();
            int narrow = run % 3 == 0 ? edges.length : 6;
            for (int i = 0; i < 512; i++) {
                seed = seed * 6364136223846793005L + 1442695040888963407L;
                Method call = calls[(int) ((seed >>> 33) % calls.length)];
                Object[] with = new Object[call.getParameterCount()];
                for (int j = 0; j < with.length; j++) {
                    seed = seed * 6364136223846793005L + 1442695040888963407L;
                    int edge = edges[(int) ((seed >>> 33) % narrow)];
                    with[j] = call.getParameterTypes()[j] == long.class ? (Object) seed : (Object) edge;
                }
                try {
                    call.invoke(m, with);
                } catch (java.lang.reflect.InvocationTargetException e) {
                    due(false, call + " " + Arrays.toString(with) + " comes back: " + e.getCause());
                }
            }
        }
    }

    private static void source() throws Exception {
        String text = Files.readString(Path.of("src/main/java/OneMeasure.java"));
        String code = text.replaceAll("(?s)/\\*.*?\\*/", "").replaceAll("//[^\n]*", "");
        String[] ruledOut = {"\\bthrow\\b", "\\btry\\b", "\\bcatch\\b", "\\bsynchronized\\b", "\\bassert\\b", "->", "::",
            "Exact\\b", "\\bpackage\\b", "\\bprotected\\b", "\\bdouble\\b", "\\bSystem\\.(?!arraycopy)", "\\bThread\\b",
            "\\bstatic\\s*\\{", "\\bwhile\\s*\\(true", "\\bimport\\s+(?!java\\.util\\.Arrays;)"};
        for (String sign : ruledOut) {
            Matcher found = Pattern.compile(sign).matcher(code);
            due(!found.find(), "the source is without " + sign);
        }
        for (char c : text.toCharArray()) due(c < 128, "plain signs alone");
        Matcher method = Pattern.compile("(?m)^( {4}| {8})\\w[^;={}]*\\([^;{}]*\\) \\{\\n(?s:.*?)\\n\\1\\}").matcher(text);
        while (method.find()) {
            due(method.group().split("\n").length <= 60, "a short method: " + method.group().split("\n")[0]);
        }
    }
}
