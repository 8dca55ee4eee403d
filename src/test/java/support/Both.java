import java.util.NoSuchElementException;

/** The class and the model side by side: the same calls, the answers compared. */
final class Both {
    static final String[] CALLS = {"count", "person", "house", "evenings", "move", "found", "join", "rank", "undo", "then",
        "size", "later", "meet", "together", "goes", "falls", "who", "round", "asNow", "known", "allKnown", "toMeet",
        "partners", "halves", "chain", "see", "forget", "ranked", "look", "storms", "game", "years", "ahead", "toJoin",
        "image", "restore", "fault"};

    final NewHouses real = new NewHouses();
    final Model model = new Model();
    final StringBuilder log = new StringBuilder();
    int wrong = 0;

    static int pack(String s, int at) {
        int x = 0;
        for (int i = 0; i < 4; i++) x = x << 8 | (at + i < s.length() ? s.charAt(at + i) & 255 : 32);
        return x;
    }

    private interface Call { int run(); }

    private static String answer(Call c) {
        try {
            return String.valueOf(c.run());
        } catch (NoSuchElementException e) {
            return e.getClass() == NoSuchElementException.class && e.getStackTrace()[0].getClassName().startsWith("NewHouses")
                || e.getStackTrace()[0].getClassName().startsWith("Model") ? "NoSuchElement" : "machine " + e;
        } catch (IllegalArgumentException e) {
            return "IllegalArgument";
        } catch (RuntimeException e) {
            return "machine " + e;
        }
    }

    private void compare(String name, Call a, Call b) {
        String due = answer(b), got = answer(a);
        log.append(name).append(" -> ").append(got).append('\n');
        if (!due.equals(got)) {
            wrong++;
            System.out.println(log + "due is " + due);
        }
    }

    void tell(String text) {
        for (int i = 0; i < text.length(); i += 20) {
            int at = i;
            int[] f = {pack(text, at), pack(text, at + 4), pack(text, at + 8), pack(text, at + 12), pack(text, at + 16)};
            compare("feed", () -> real.feed(f[0], f[1], f[2], f[3], f[4]), () -> model.feed(f));
        }
        log.append('[').append(text).append("]\n");
        int n = Math.min(text.length(), model.tape.length());
        compare("village " + n, () -> real.village(n), () -> model.village(n));
        compare("fault", real::fault, model::fault);
    }

    void feedRaw(int a, int b, int c, int d, int e) {
        compare("feed", () -> real.feed(a, b, c, d, e), () -> model.feed(a, b, c, d, e));
    }

    void village(int n) {
        compare("village " + n, () -> real.village(n), () -> model.village(n));
        compare("fault", real::fault, model::fault);
    }

    void call(String name, int a, int b, int c, int d) {
        String told = name + "(" + a + "," + b + "," + c + "," + d + ")";
        compare(told, () -> ofReal(name, a, b, c, d), () -> ofModel(name, a, b, c, d));
    }

    private int ofReal(String name, int a, int b, int c, int d) {
        NewHouses x = real;
        switch (name) {
            case "count": return x.count(a);
            case "person": return x.person(a, b);
            case "house": return x.house(a, b);
            case "evenings": return x.evenings(a);
            case "move": return x.move(a, b);
            case "found": return x.found(a);
            case "join": return x.join(a, b);
            case "rank": return x.rank(a, b);
            case "undo": return x.undo();
            case "then": return x.then(a, b, c);
            case "size": return x.size(a, b);
            case "later": return x.later(a, b);
            case "meet": return x.meet(a, b, c);
            case "together": return x.together(a, b, c);
            case "goes": return x.goes(a, b);
            case "falls": return x.falls(a);
            case "who": return x.who(a, b, c);
            case "round": return x.round(a);
            case "asNow": return x.asNow();
            case "known": return x.known(a, b);
            case "allKnown": return x.allKnown();
            case "toMeet": return x.toMeet(a, b);
            case "partners": return x.partners(a);
            case "halves": return x.halves(a);
            case "chain": return x.chain(a, b);
            case "see": return x.see(a, b, c);
            case "forget": x.forget(); return 0;
            case "ranked": return x.ranked(a);
            case "look": return x.look(a);
            case "storms": return x.storms(a, b, c, d);
            case "game": return x.game(a, b, c);
            case "years": return x.years(a, b, c);
            case "ahead": return x.ahead(a, b);
            case "toJoin": return x.toJoin();
            case "image": x.image(); return 0;
            case "restore": return x.restore() ? 1 : 0;
            default: return x.fault();
        }
    }

    private int ofModel(String name, int a, int b, int c, int d) {
        Model x = model;
        switch (name) {
            case "count": return x.count(a);
            case "person": return x.person(a, b);
            case "house": return x.house(a, b);
            case "evenings": return x.evenings(a);
            case "move": return x.move(a, b);
            case "found": return x.found(a);
            case "join": return x.join(a, b);
            case "rank": return x.rank(a, b);
            case "undo": return x.undo();
            case "then": return x.then(a, b, c);
            case "size": return x.size(a, b);
            case "later": return x.later(a, b);
            case "meet": return x.meet(a, b, c);
            case "together": return x.together(a, b, c);
            case "goes": return x.goes(a, b);
            case "falls": return x.falls(a);
            case "who": return x.who(a, b, c);
            case "round": return x.round(a);
            case "asNow": return x.asNow();
            case "known": return x.known(a, b);
            case "allKnown": return x.allKnown();
            case "toMeet": return x.toMeet(a, b);
            case "partners": return x.partners(a);
            case "halves": return x.halves(a);
            case "chain": return x.chain(a, b);
            case "see": return x.see(a, b, c);
            case "forget": x.forget(); return 0;
            case "ranked": return x.ranked(a);
            case "look": return x.look(a);
            case "storms": return x.storms(a, b, c, d);
            case "game": return x.game(a, b, c);
            case "years": return x.years(a, b, c);
            case "ahead": return x.ahead(a, b);
            case "toJoin": return x.toJoin();
            case "image": x.image(); return 0;
            case "restore": return x.restore();
            default: return x.fault();
        }
    }
}
