import java.util.Random;

/** Random runs of calls, from seeds, on the class and on the model: every answer must be the same. */
public final class ModelTest {
    public static void main(String[] args) {
        int runs = args.length > 0 ? Integer.parseInt(args[0]) : 60;
        int from = args.length > 1 ? Integer.parseInt(args[1]) : 1;
        int wrong = 0;
        for (int seed = from; seed < from + runs && wrong == 0; seed++) {
            wrong += run(seed);
        }
        for (int seed = from; seed < from + 40 * runs && wrong == 0; seed++) {
            wrong += texts(seed);
        }
        System.out.println(wrong == 0 ? "class and model agree" : "class and model differ");
        if (wrong != 0) System.exit(1);
    }

    /** Neighbouring seeds begin alike: they are spread. */
    private static Random random(int seed) { return new Random(seed * 0x9E3779B97F4A7C15L); }

    private static int texts(int seed) {
        Random random = random(seed);
        Texts texts = new Texts(random);
        Both both = new Both();
        for (int i = 0; i < 5; i++) {
            String text = random.nextInt(3) > 0 ? texts.spoilt() : texts.village();
            both.tell(text.length() > 700 ? text.substring(0, 700) : text);
        }
        return both.wrong;
    }

    private static int run(int seed) {
        Random random = random(seed);
        Texts texts = new Texts(random);
        Both both = new Both();
        if (random.nextInt(10) > 0) both.tell(fitting(texts));
        for (int i = 0; i < 150 && both.wrong == 0; i++) {
            String name = Both.CALLS[random.nextInt(Both.CALLS.length)];
            if (random.nextInt(60) == 0) both.tell(random.nextInt(2) == 0 ? texts.spoilt() : fitting(texts));
            boolean dear = name.equals("toJoin") || name.equals("ranked") || name.equals("look") || name.equals("toMeet");
            if (!dear || random.nextInt(3) == 0) call(both, random, name);
        }
        return both.wrong;
    }

    private static String fitting(Texts texts) {
        String text = texts.village();
        for (int i = 0; i < 1000 && text.length() > 700; i++) text = texts.village();
        return text;
    }

    private static void call(Both both, Random random, String name) {
        int n = both.model.now.n(), m = both.model.now.houses.size();
        int p = index(random, n), q = index(random, n), h = index(random, m), g = index(random, m);
        int e = random.nextInt(20) == 0 ? random.nextInt(140) - 20 : random.nextInt(3) == 0 ? random.nextInt(101) : random.nextInt(12);
        switch (name) {
            case "count": both.call(name, random.nextInt(19) - 1, 0, 0, 0); break;
            case "person": both.call(name, p, random.nextInt(11) - 1, 0, 0); break;
            case "house": both.call(name, h, random.nextInt(9) - 1, 0, 0); break;
            case "evenings": both.call(name, random.nextInt(24) - 1, 0, 0, 0); break;
            case "move": both.call(name, p, h, 0, 0); break;
            case "join": both.call(name, h, g, 0, 0); break;
            case "rank": both.call(name, p, random.nextInt(12) - 1, 0, 0); break;
            case "then": both.call(name, p, e, random.nextInt(6) - 1, 0); break;
            case "size": both.call(name, random.nextInt(14) - 1, e, 0, 0); break;
            case "later": both.call(name, e, random.nextInt(7) - 1, 0, 0); break;
            case "meet": both.call(name, p, q, random.nextInt(4) - 1, 0); break;
            case "together": both.call(name, p, q, e, 0); break;
            case "goes": both.call(name, p, random.nextInt(4) - 1, 0, 0); break;
            case "falls": both.call(name, h, 0, 0, 0); break;
            case "who": both.call(name, random.nextInt(14) - 1, random.nextInt(14) - 1, e, 0); break;
            case "round": case "partners": case "halves": case "look": both.call(name, random.nextInt(4) - 1, 0, 0, 0); break;
            case "ranked": both.call(name, random.nextInt(5) - 1, 0, 0, 0); break;
            case "known": both.call(name, p, e, 0, 0); break;
            case "see": see(both, random, p); break;
            case "storms": both.call(name, p, q, random.nextInt(7), random.nextInt(13) - 1); break;
            case "game": both.call(name, p, q, random.nextInt(4) - 1, 0); break;
            case "years": both.call(name, random.nextInt(), e, random.nextInt(5) - 1, 0); break;
            case "ahead": both.call(name, e, random.nextInt(6) - 1, 0, 0); break;
            default: both.call(name, p, q, 0, 0); break;
        }
    }

    /** Mostly what would be so, or nothing would be left to find. */
    private static void see(Both both, Random random, int p) {
        int e = random.nextInt(24) - 1;
        int size = random.nextInt(15) - 1;
        if (p >= 0 && p < both.model.now.n() && e >= 0 && e <= 20 && random.nextInt(4) > 0) size = both.model.then(p, e, 3);
        both.call("see", p, e, size, 0);
    }

    private static int index(Random random, int n) {
        return random.nextInt(25) == 0 || n == 0 ? random.nextInt(16) - 2 : random.nextInt(n);
    }
}
