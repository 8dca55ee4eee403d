import java.util.ArrayList;
import java.util.List;
import java.util.NoSuchElementException;

/** Checks on new objects, each told by the document's own words that ask for it. */
final class Edge {
    interface Made { NewHouses get(); }

    interface Call { int of(NewHouses x); }

    /** 012 3 4, without rules; FRIENDS 0 3, 1 4, 3 4. */
    static final String FIVE = "person 5;person 3;person 9;person 1;person 4;house 0 1 2;house 3;"
        + "friends 0 3;friends 1 4;friends 3 4;";
    /** One HOUSE each. */
    static final String TWELVE = people(0, 0, 0, 0, 0, 0, 0, 0, 0, 0, 0, 0);
    static final int MIN = Integer.MIN_VALUE;
    static final int MAX = Integer.MAX_VALUE;

    private static String words = "";
    private static int wrong = 0;

    private Edge() { }

    /** The document's words on which the checks that follow stand. */
    static void says(String sentence) { words = sentence; }

    static void end(String fine) {
        System.out.println(wrong == 0 ? fine : wrong + " answers are not as due");
        if (wrong != 0) System.exit(1);
    }

    static String people(int... ranks) {
        StringBuilder s = new StringBuilder();
        for (int r : ranks) s.append("person ").append(r).append(';');
        return s.toString();
    }

    static String blanks(int many) { return " ".repeat(many); }

    static void feed(NewHouses x, String text) {
        for (int i = 0; i < text.length(); i += 20) {
            x.feed(Both.pack(text, i), Both.pack(text, i + 4), Both.pack(text, i + 8), Both.pack(text, i + 12), Both.pack(text, i + 16));
        }
    }

    /** What village() answers for just this text. */
    static int tell(NewHouses x, String text) {
        feed(x, text);
        return x.village(text.length());
    }

    static NewHouses told(String text) {
        NewHouses x = new NewHouses();
        int fault = tell(x, text);
        if (fault != 0) wrong("the text has FAULT " + fault + " at " + x.fault() + ": " + text);
        return x;
    }

    private static void wrong(String what) {
        wrong++;
        String at = "";
        for (StackTraceElement e : new Throwable().getStackTrace()) {
            if (at.isEmpty() && !e.getClassName().startsWith("Edge$") && !e.getClassName().equals("Edge")) {
                at = e.getFileName() + ":" + e.getLineNumber();
            }
        }
        System.out.println(at + ": " + what + " (\"" + words + "\")");
    }

    static void due(int got, int want) {
        if (got != want) wrong("answered " + got + ", due is " + want);
    }

    static void due(Made made, Call call, int want) { due(call.of(made.get()), want); }

    static void due(String text, Call call, int want) { due(call.of(told(text)), want); }

    static void holds(boolean holds) {
        if (!holds) wrong("doesn't hold");
    }

    static void fault(String text, int fault, int place) {
        NewHouses x = new NewHouses();
        int got = tell(x, text);
        if (got != fault || x.fault() != place) {
            wrong("FAULT " + got + " at " + x.fault() + ", due is " + fault + " at " + place + ": [" + text + "]");
        }
    }

    static void fine(String text) { fault(text, 0, NewHouses.NONE); }

    /** All that can be asked of what is kept; some 220 calls for twelve PEOPLE, so that twice is below 512. */
    static List<Integer> all(NewHouses x) {
        List<Integer> all = new ArrayList<>();
        for (int what = 0; what <= 16; what++) all.add(x.count(what));
        int people = x.count(0), houses = x.count(1);
        for (int p = 0; p < people; p++) for (int what = 0; what <= 8; what++) all.add(x.person(p, what));
        for (int h = 0; h < houses; h++) for (int what = 0; what <= 6; what++) all.add(x.house(h, what));
        for (int what = 0; what <= 4; what++) all.add(x.later(3, what));
        for (int what = 0; what <= 2; what++) all.add(x.ranked(what));
        all.add(x.fault());
        return all;
    }

    /** The call answers NONE, counts in that STATUS (none: below 0), and changes nothing else. */
    static void refused(Made made, int status, Call call) {
        NewHouses x = made.get();
        List<Integer> before = all(x);
        int got = call.of(x);
        if (got != NewHouses.NONE) wrong("answered " + got + ", due is NONE");
        if (status >= 0) before.set(14 + status, before.get(14 + status) + 1);
        List<Integer> now = all(x);
        if (!now.equals(before)) wrong("a refused call leaves " + now + ", due is " + before);
    }

    static void refused(String text, int status, Call call) { refused(() -> told(text), status, call); }

    private static void thrown(Made made, Call call, Class<?> want) {
        NewHouses x = made.get();
        List<Integer> before = all(x);
        String got;
        try {
            got = "answered " + call.of(x);
        } catch (RuntimeException e) {
            got = e.getClass() == want && e.getStackTrace()[0].getClassName().startsWith("NewHouses") ? "" : "threw " + e;
        }
        if (!got.isEmpty()) wrong(got + ", due is " + want);
        List<Integer> now = all(x);
        if (!now.equals(before)) wrong("a call that throws leaves " + now + ", due is " + before);
    }

    /** The call throws NoSuchElementException, and nothing changes. */
    static void no(Made made, Call call) { thrown(made, call, NoSuchElementException.class); }

    static void no(String text, Call call) { no(() -> told(text), call); }

    /** The call throws IllegalArgumentException, and nothing changes. */
    static void bad(Made made, Call call) { thrown(made, call, IllegalArgumentException.class); }

    static void bad(String text, Call call) { bad(() -> told(text), call); }
}
