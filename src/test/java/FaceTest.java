import java.io.IOException;
import java.lang.management.ManagementFactory;
import java.lang.reflect.Constructor;
import java.lang.reflect.Field;
import java.lang.reflect.Method;
import java.lang.reflect.Modifier;
import java.nio.file.Files;
import java.nio.file.Path;
import java.util.List;
import java.util.NoSuchElementException;
import java.util.Random;
import java.util.Set;
import java.util.TreeSet;

/** The face and the language's rules, any arguments in any state, and how much room the calls take. */
public final class FaceTest {
    private static final Set<String> FACE = new TreeSet<>(List.of(
        "int feed(int,int,int,int,int)", "int village(int)", "int fault()", "int count(int)", "int person(int,int)",
        "int house(int,int)", "int evenings(int)", "int move(int,int)", "int found(int)", "int join(int,int)",
        "int rank(int,int)", "int undo()", "int then(int,int,int)", "int size(int,int)", "int later(int,int)",
        "int meet(int,int,int)", "int together(int,int,int)", "int goes(int,int)", "int falls(int)", "int who(int,int,int)",
        "int round(int)", "int asNow()", "int known(int,int)", "int allKnown()", "int toMeet(int,int)", "int partners(int)",
        "int halves(int)", "int chain(int,int)", "int see(int,int,int)", "void forget()", "int ranked(int)", "int look(int)",
        "int storms(int,int,int,int)", "int game(int,int,int)", "int years(int,int,int)", "int ahead(int,int)",
        "int toJoin()", "void image()", "boolean restore()"));
    private static int wrong = 0;

    private static void hold(boolean holds, String what) {
        if (!holds) { wrong++; System.out.println(what); }
    }

    public static void main(String[] args) throws IOException, ReflectiveOperationException {
        face();
        source();
        anything();
        room();
        System.out.println(wrong == 0 ? "the face is as told" : wrong + " faults of the face");
        if (wrong != 0) System.exit(1);
    }

    private static void face() {
        Class<?> c = NewHouses.class;
        hold(Modifier.isPublic(c.getModifiers()) && Modifier.isFinal(c.getModifiers()), "the class is not public final");
        Set<String> found = new TreeSet<>();
        Set<String> names = new TreeSet<>();
        for (Method m : c.getDeclaredMethods()) {
            StringBuilder s = new StringBuilder(m.getReturnType() + " " + m.getName() + "(");
            for (Class<?> p : m.getParameterTypes()) s.append(s.charAt(s.length() - 1) == '(' ? "" : ",").append(p);
            if (Modifier.isPublic(m.getModifiers())) { found.add(s + ")"); names.add(m.getName()); }
            else hold(Modifier.isPrivate(m.getModifiers()), m + " is not private");
        }
        hold(found.equals(FACE), "the face is " + found);
        for (Method m : c.getDeclaredMethods()) {
            hold(Modifier.isPublic(m.getModifiers()) || !names.contains(m.getName()), m + " bears a public name");
        }
        for (Field f : c.getDeclaredFields()) {
            hold(f.getName().equals("NONE") || Modifier.isPrivate(f.getModifiers()), f + " is not private");
            hold(!Modifier.isStatic(f.getModifiers()) || Modifier.isFinal(f.getModifiers()), f + " is static, but not final");
        }
        Constructor<?>[] made = c.getDeclaredConstructors();
        hold(made.length == 1 && made[0].getParameterCount() == 0 && Modifier.isPublic(made[0].getModifiers()), "constructors");
        hold(c.getDeclaredClasses().length <= 11, "more than twelve classes");
        for (Class<?> k : c.getDeclaredClasses()) {
            hold(Modifier.isStatic(k.getModifiers()) && !Modifier.isPublic(k.getModifiers()), k + " is not as told");
            for (Method m : k.getDeclaredMethods()) {
                hold(!names.contains(m.getName()), m + " bears a public name");
                hold(m.getParameterCount() <= 7, m + " takes too many");
            }
            int fields = 0;
            for (Field f : k.getDeclaredFields()) {
                if (!Modifier.isStatic(f.getModifiers())) fields++;
                else hold(Modifier.isFinal(f.getModifiers()), f + " is static, but not final");
            }
            hold(fields <= 20, k + " has too many fields");
        }
    }

    private static void source() throws IOException {
        String all = Files.readString(Path.of("src/main/java/NewHouses.java"));
        String code = all.replaceAll("(?s)/\\*.*?\\*/", "").replaceAll("//.*", "").replaceAll("\"[^\"]*\"", "\"\"");
        for (String ban : List.of("->", "::", "\\btry\\b", "\\bcatch\\b", "\\bfinally\\b", "\\bsynchronized\\b", "\\bassert\\b",
                "\\bstatic \\{", "Exact\\b", "\\bhashCode\\b", "\\btoString\\b", "\\bdouble\\b", "\\bfloat\\b", "\\bpackage\\b",
                "\\bprotected\\b", "\\bSystem\\.(?!arraycopy)", "\\bvar\\b", "\\brecord\\b")) {
            hold(!java.util.regex.Pattern.compile(ban).matcher(code).find(), "the source has " + ban);
        }
        Set<String> imports = new TreeSet<>();
        for (String line : all.split("\n")) if (line.startsWith("import ")) imports.add(line);
        hold(imports.equals(new TreeSet<>(List.of("import java.util.Arrays;", "import java.util.NoSuchElementException;"))), "imports");
        hold(all.chars().allMatch(ch -> ch < 128), "the source is not plain");
        hold(all.lines().allMatch(line -> line.length() <= 120), "a line is too long");
        int start = 0;
        List<String> lines = all.lines().toList();
        for (int i = 0; i < lines.size(); i++) {
            if (lines.get(i).matches("^ {4}( {4})?\\S.*\\) (throws .*)?\\{$")) start = i;
            if (lines.get(i).matches("^ {4}( {4})?\\}$")) hold(i - start <= 60 || lines.get(i).equals("    }"), "long: " + lines.get(start));
        }
    }

    private static final int[] ODD = {Integer.MIN_VALUE, Integer.MAX_VALUE, -1000, -2, -1, 0, 1, 2, 3, 5, 8, 9, 10, 11, 12, 13, 20, 21,
        60, 99, 100, 101, 200, 201, 700, 9999};

    /** No call throws but by a throw statement of the class, and only what the document names. */
    private static void anything() throws ReflectiveOperationException {
        Method[] all = NewHouses.class.getDeclaredMethods();
        java.util.Arrays.sort(all, (a, b) -> a.getName().compareTo(b.getName()));
        for (int seed = 0; seed < 120; seed++) {
            Random random = new Random(seed);
            Texts texts = new Texts(random);
            NewHouses x = new NewHouses();
            for (int calls = 0; calls < 500; calls++) {
                if (calls % 100 == 0 && random.nextInt(4) > 0) {
                    String t = random.nextInt(5) == 0 ? texts.spoilt() : texts.village();
                    for (int i = 0; i < t.length() && i < 700; i += 20) {
                        x.feed(Both.pack(t, i), Both.pack(t, i + 4), Both.pack(t, i + 8), Both.pack(t, i + 12), Both.pack(t, i + 16));
                    }
                    if (t.length() <= x.count(13)) x.village(t.length());
                }
                Method m = all[random.nextInt(all.length)];
                if (!Modifier.isPublic(m.getModifiers())) continue;
                Object[] args = new Object[m.getParameterCount()];
                for (int i = 0; i < args.length; i++) args[i] = random.nextInt(3) == 0 ? ODD[random.nextInt(ODD.length)] : random.nextInt(6);
                try {
                    m.invoke(x, args);
                } catch (java.lang.reflect.InvocationTargetException e) {
                    Throwable t = e.getCause();
                    boolean named = false;
                    for (Class<?> k : m.getExceptionTypes()) named |= k == t.getClass();
                    hold(named && t.getStackTrace()[0].getClassName().equals("NewHouses")
                        && (t.getClass() == NoSuchElementException.class || t.getClass() == IllegalArgumentException.class), m + " threw " + t);
                }
            }
        }
    }

    /** Each row is made once: the dearest calls, again and again, make next to nothing. */
    private static void room() {
        com.sun.management.ThreadMXBean bean = (com.sun.management.ThreadMXBean) ManagementFactory.getThreadMXBean();
        NewHouses x = new NewHouses();
        StringBuilder t = new StringBuilder();
        for (int i = 0; i < 12; i++) t.append("person ").append(i * 7 % 10).append(';');
        t.append("house 0 1;house 2 3;house 4 5 6;picks rank+since;keeps size<2;");
        for (int i = 0; i < t.length(); i += 20) {
            x.feed(Both.pack(t.toString(), i), Both.pack(t.toString(), i + 4), Both.pack(t.toString(), i + 8), Both.pack(t.toString(), i + 12), Both.pack(t.toString(), i + 16));
        }
        hold(x.village(t.length()) == 0, "the room's village");
        long before = bean.getCurrentThreadAllocatedBytes();
        for (int i = 0; i < 40; i++) {
            x.evenings(1);
            x.toJoin();
            x.toMeet(0, 11);
            x.see(i % 12, i % 20, 2);
            x.ranked(0);
            x.look(0);
            x.round(0);
            x.storms(0, 1, 5, 5);
            x.game(0, 1, 0);
            x.years(i, 100, 0);
            x.image();
            x.restore();
        }
        long made = bean.getCurrentThreadAllocatedBytes() - before;
        hold(made < 400_000, "the calls made " + made + " bytes");
    }
}
