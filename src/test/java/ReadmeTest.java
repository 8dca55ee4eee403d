import java.io.IOException;
import java.lang.reflect.Method;
import java.lang.reflect.Modifier;
import java.nio.file.Files;
import java.nio.file.Path;
import java.util.NoSuchElementException;
import java.util.regex.Matcher;
import java.util.regex.Pattern;

/** README.md's calls answer what it says there, its texts are villages, its table names each call of the face once. */
public final class ReadmeTest {
    private static final Pattern CALL = Pattern.compile("int \\w+ = x\\.(\\w+)\\(([^)]*)\\);\\s*// (-?\\d+|throws \\w+):.*");
    private static int wrong = 0;

    public static void main(String[] args) throws IOException, ReflectiveOperationException {
        String page = Files.readString(Path.of("README.md"));
        calls(page);
        text(page);
        table(page);
        System.out.println(wrong == 0 ? "README is as told" : wrong + " faults of README");
        if (wrong != 0) System.exit(1);
    }

    private static void hold(boolean holds, String what) {
        if (!holds) { wrong++; System.out.println(what); }
    }

    private static void calls(String page) throws ReflectiveOperationException {
        String block = page.substring(page.indexOf("```java\n") + 8);
        block = block.substring(0, block.indexOf("```"));
        NewHouses x = null;
        int many = 0;
        for (String line : block.split("\n")) {
            if (line.equals("NewHouses x = new NewHouses();")) { x = new NewHouses(); continue; }
            Matcher m = CALL.matcher(line);
            hold(m.matches(), "not read: " + line);
            if (!m.matches()) continue;
            String got = answer(x, m.group(1), m.group(2).split(", *"));
            hold(got.equals(m.group(3)), line + " answered " + got);
            many++;
        }
        hold(many > 0, "README has no calls");
    }

    private static String answer(NewHouses x, String name, String[] words) throws ReflectiveOperationException {
        Object[] numbers = new Object[words[0].isEmpty() ? 0 : words.length];
        Class<?>[] kinds = new Class<?>[numbers.length];
        for (int i = 0; i < numbers.length; i++) {
            numbers[i] = (int) (long) Long.decode(words[i]);
            kinds[i] = int.class;
        }
        try {
            return String.valueOf(NewHouses.class.getMethod(name, kinds).invoke(x, numbers));
        } catch (java.lang.reflect.InvocationTargetException e) {
            Throwable t = e.getCause();
            boolean named = t instanceof NoSuchElementException || t instanceof IllegalArgumentException;
            return (named ? "throws " : "the machine throws ") + t.getClass().getSimpleName();
        }
    }

    private static void text(String page) {
        Matcher m = Pattern.compile("`(person [^`]*;)`").matcher(page);
        hold(m.find(), "README has no text");
        NewHouses x = new NewHouses();
        int fault = Edge.tell(x, m.group(1));
        hold(fault == 0, "README's text has FAULT " + fault + " at " + x.fault());
        hold(x.count(0) == 3 && x.count(1) == 1 && x.count(8) == 1, "README's text tells another village");
    }

    private static void table(String page) {
        String calls = page.substring(page.indexOf("| --- |"), page.indexOf("An answer of `NewHouses.NONE`"));
        for (Method m : NewHouses.class.getDeclaredMethods()) {
            if (Modifier.isPublic(m.getModifiers())) {
                hold(calls.split("`" + m.getName() + "`", -1).length == 2, "README's table: " + m.getName());
            }
        }
    }
}
