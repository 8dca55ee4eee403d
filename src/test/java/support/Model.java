import java.util.ArrayList;
import java.util.Arrays;
import java.util.List;
import java.util.NoSuchElementException;
import java.util.TreeSet;

/** The document again, written as plainly as can be and in another way than the class: lists of lists, no bits kept. */
final class Model {
    static final class State {
        List<List<Integer>> houses = new ArrayList<>();
        List<Integer> founded = new ArrayList<>();
        int[] rank = new int[0];
        int[] came = new int[0];
        int[] gone = new int[0];
        int evening = 0;

        State copy() {
            State s = new State();
            for (List<Integer> h : houses) s.houses.add(new ArrayList<>(h));
            s.founded.addAll(founded);
            s.rank = rank.clone();
            s.came = came.clone();
            s.gone = gone.clone();
            s.evening = evening;
            return s;
        }

        int n() { return rank.length; }

        int home(int p) {
            for (int h = 0; h < houses.size(); h++) if (houses.get(h).contains(p)) return h;
            throw new AssertionError("nobody's house");
        }

        boolean one(int p, int q) { return home(p) == home(q); }

        void fall() {
            for (int h = houses.size() - 1; h >= 0; h--) {
                if (houses.get(h).isEmpty()) { houses.remove(h); founded.remove(h); }
            }
        }

        void move(int p, int h) {
            houses.get(home(p)).remove((Integer) p);
            houses.get(h).add(p);
            came[p] = evening;
            fall();
        }

        void found(int p) {
            houses.get(home(p)).remove((Integer) p);
            houses.add(new ArrayList<>(List.of(p)));
            founded.add(evening);
            came[p] = evening;
            fall();
        }

        void join(int a, int b) {
            for (int p : houses.get(a)) { houses.get(b).add(p); came[p] = evening; }
            houses.get(a).clear();
            fall();
        }

        List<Integer> sizes() {
            List<Integer> s = new ArrayList<>();
            for (List<Integer> h : houses) s.add(h.size());
            s.sort((x, y) -> y - x);
            return s;
        }
    }

    State now = new State();
    List<State> acts = new ArrayList<>();
    List<int[]> seen = new ArrayList<>();
    List<int[]> friends = new ArrayList<>();
    List<String> picks = null;
    List<String> keeps = null;
    StringBuilder tape = new StringBuilder();
    int fault = -1;
    int[] status = new int[3];
    State imageNow = null;
    List<State> imageActs;
    List<int[]> imageSeen;

    // ---- text

    static final class Token {
        String text; int at;
        Token(String t, int a) { text = t; at = a; }
        boolean number() { return !text.isEmpty() && Character.isDigit(text.charAt(0)); }
        boolean word() { return !text.isEmpty() && text.charAt(0) >= 'a' && text.charAt(0) <= 'z'; }
    }

    static List<Token> tokens(String s) {
        List<Token> out = new ArrayList<>();
        java.util.regex.Matcher m = java.util.regex.Pattern.compile("[ \n]+|([a-z]+|[0-9]+|.)", java.util.regex.Pattern.DOTALL).matcher(s);
        while (m.find()) if (m.group(1) != null) out.add(new Token(m.group(1), m.start(1)));
        out.add(new Token("", s.length()));
        return out;
    }

    int village(int n) {
        if (n < 0 || n > tape.length()) throw new IllegalArgumentException();
        String s = tape.substring(0, n);
        tape.setLength(0);
        Text t = new Text();
        int f = t.run(tokens(s));
        if (f != 0) { fault = t.place; status[0]++; return f; }
        fault = -1;
        now = new State();
        now.rank = t.ranks.stream().mapToInt(x -> x).toArray();
        now.came = new int[now.n()];
        now.gone = new int[now.n()];
        for (List<Integer> h : t.houses) { now.houses.add(new ArrayList<>(h)); now.founded.add(0); }
        for (int p = 0; p < now.n(); p++) {
            if (!t.housed.contains(p)) { now.houses.add(new ArrayList<>(List.of(p))); now.founded.add(0); }
        }
        friends = t.friends;
        picks = t.rule[0];
        keeps = t.rule[1];
        acts.clear();
        seen.clear();
        imageNow = null;
        return 0;
    }

    /** A machine with a pile of parentheses in place of the class's descent. */
    static final class Text {
        static final List<String> PICKS = List.of("rank", "place", "size", "since", "moves", "evening");
        static final List<String> KEEPS = List.of("size", "house", "ranks", "old", "evening");
        List<Integer> ranks = new ArrayList<>();
        List<List<Integer>> houses = new ArrayList<>();
        List<Integer> housed = new ArrayList<>();
        List<int[]> friends = new ArrayList<>();
        @SuppressWarnings({"unchecked", "rawtypes"}) List<String>[] rule = new List[2];
        int place;
        List<Token> ts;
        int i;

        int run(List<Token> all) {
            ts = all;
            i = 0;
            while (!ts.get(i).text.isEmpty()) {
                int f = line();
                if (f != 0) { place = ts.get(i).at; return f; }
                i++;
            }
            return 0;
        }

        /** i stays at the token with the fault, or ends at the ';'. */
        int line() {
            String w = ts.get(i).text;
            switch (w) {
                case "person": {
                    if (ranks.size() == 12) return 2;
                    i++;
                    if (!ts.get(i).number()) return 1;
                    if (ts.get(i).text.length() > 4 || Integer.parseInt(ts.get(i).text) > 9) return 2;
                    ranks.add(Integer.parseInt(ts.get(i).text));
                    i++;
                    break;
                }
                case "house": {
                    List<Integer> h = new ArrayList<>();
                    i++;
                    do {
                        int f = someone();
                        if (f != 0) return f;
                        int p = Integer.parseInt(ts.get(i).text);
                        if (housed.contains(p)) return 4;
                        housed.add(p);
                        h.add(p);
                        i++;
                    } while (ts.get(i).number());
                    houses.add(h);
                    break;
                }
                case "friends": {
                    if (friends.size() == 12) return 2;
                    i++;
                    int f = someone();
                    if (f != 0) return f;
                    int a = Integer.parseInt(ts.get(i).text);
                    i++;
                    f = someone();
                    if (f != 0) return f;
                    int b = Integer.parseInt(ts.get(i).text);
                    if (a == b) return 4;
                    for (int[] c : friends) if (c[0] == a && c[1] == b || c[0] == b && c[1] == a) return 4;
                    friends.add(new int[] {a, b});
                    i++;
                    break;
                }
                case "picks":
                case "keeps": {
                    int k = w.equals("picks") ? 0 : 1;
                    if (rule[k] != null) return 5;
                    rule[k] = new ArrayList<>();
                    i++;
                    return expr(k);
                }
                default:
                    return 1;
            }
            return ts.get(i).text.equals(";") ? 0 : 1;
        }

        int someone() {
            Token t = ts.get(i);
            if (!t.number()) return 1;
            if (t.text.length() > 4) return 2;
            return Integer.parseInt(t.text) >= ranks.size() ? 3 : 0;
        }

        int expr(int k) {
            boolean wantsPart = true, mayNot = true, first = true;
            int nots = 0;
            List<Boolean> compared = new ArrayList<>(List.of(false));
            for (;; i++) {
                Token t = ts.get(i);
                int level = compared.size() - 1;
                if (wantsPart) {
                    if (!t.number() && !t.word() && !t.text.equals("(")) return 1;
                    if (first && level == 6) return 2;
                    first = false;
                    if (t.number()) {
                        if (t.text.length() > 4) return 2;
                        wantsPart = false;
                    } else if (t.text.equals("(")) {
                        compared.add(false);
                        mayNot = true;
                        first = true;
                        nots = 0;
                    } else if (t.text.equals("not") && mayNot) {
                        if (++nots == 7) return 2;
                    } else {
                        if (!(k == 0 ? PICKS : KEEPS).contains(t.text)) return 3;
                        wantsPart = false;
                    }
                } else {
                    switch (t.text) {
                        case "+": case "-": case "*": case "/":
                            wantsPart = true; mayNot = false; break;
                        case "<": case "=":
                            if (compared.get(level)) return 1;
                            compared.set(level, true);
                            wantsPart = true; mayNot = false; break;
                        case "and": case "or":
                            compared.set(level, false);
                            wantsPart = true; mayNot = true; nots = 0; break;
                        case ")":
                            if (level == 0) return 1;
                            compared.remove(level); break;
                        case ";":
                            return level == 0 ? 0 : 1;
                        default:
                            return 1;
                    }
                }
                rule[k].add(t.text);
            }
        }
    }

    // ---- rules: the list of tokens is cut at its weakest sign, the last one of its kind

    interface Values { int get(String name); }

    static int eval(List<String> e, Values v) {
        int k = lastOf(e, "or");
        if (k >= 0) return eval(e.subList(0, k), v) != 0 | eval(e.subList(k + 1, e.size()), v) != 0 ? 1 : 0;
        k = lastOf(e, "and");
        if (k >= 0) return eval(e.subList(0, k), v) != 0 & eval(e.subList(k + 1, e.size()), v) != 0 ? 1 : 0;
        if (e.get(0).equals("not")) return eval(e.subList(1, e.size()), v) == 0 ? 1 : 0;
        k = lastOf(e, "<", "=");
        if (k < 0) k = lastOf(e, "+", "-");
        if (k < 0) k = lastOf(e, "*", "/");
        if (k >= 0) {
            int a = eval(e.subList(0, k), v), b = eval(e.subList(k + 1, e.size()), v);
            switch (e.get(k)) {
                case "<": return a < b ? 1 : 0;
                case "=": return a == b ? 1 : 0;
                case "+": return a + b;
                case "-": return a - b;
                case "*": return a * b;
                default: return b == 0 ? 0 : (int) ((long) a / b);
            }
        }
        if (e.get(0).equals("(")) return eval(e.subList(1, e.size() - 1), v);
        if (Character.isDigit(e.get(0).charAt(0))) return Integer.parseInt(e.get(0));
        return v.get(e.get(0));
    }

    static int lastOf(List<String> e, String... signs) {
        int depth = 0;
        for (int i = e.size() - 1; i >= 0; i--) {
            if (e.get(i).equals(")")) depth++;
            else if (e.get(i).equals("(")) depth--;
            else if (depth == 0 && Arrays.asList(signs).contains(e.get(i))) return i;
        }
        return -1;
    }

    // ---- an evening

    int goer(State s, int h, List<Integer> hidden) {
        List<Integer> house = s.houses.get(h);
        if (keeps != null) {
            int k = eval(keeps, name -> {
                switch (name) {
                    case "size": return house.size();
                    case "house": return h;
                    case "ranks": return house.stream().mapToInt(p -> s.rank[p]).sum();
                    case "old": return s.evening - s.founded.get(h);
                    default: return s.evening;
                }
            });
            if (k > 0) return -1;
        }
        int best = -1, most = 0;
        for (int i = 0; i < house.size(); i++) {
            int p = house.get(i), place = i;
            if (hidden.contains(p)) continue;
            int worth = picks == null ? 0 : eval(picks, name -> {
                switch (name) {
                    case "rank": return s.rank[p];
                    case "place": return place;
                    case "size": return house.size();
                    case "since": return s.evening - s.came[p];
                    case "moves": return s.gone[p];
                    default: return s.evening;
                }
            });
            if (best < 0 || worth >= most) { best = p; most = worth; }
        }
        return best;
    }

    List<Integer> pass(State s, List<Integer> hidden) {
        List<Integer> out = new ArrayList<>();
        for (int h = 0; h < s.houses.size(); h++) {
            int g = goer(s, h, hidden);
            if (g >= 0) out.add(g);
        }
        s.evening++;
        for (int g : out) {
            s.houses.get(s.home(g)).remove((Integer) g);
            s.gone[g]++;
            s.came[g] = s.evening;
        }
        if (!out.isEmpty()) { s.houses.add(new ArrayList<>(out)); s.founded.add(s.evening); }
        s.fall();
        return out;
    }

    State after(int evenings) {
        State s = now.copy();
        for (int i = 0; i < evenings; i++) pass(s, List.of());
        return s;
    }

    /** States behind 0, 1 .. evenings. */
    List<State> way(State from, int evenings) {
        List<State> all = new ArrayList<>();
        State s = from.copy();
        all.add(s.copy());
        for (int i = 0; i < evenings; i++) { pass(s, List.of()); all.add(s.copy()); }
        return all;
    }

    // ---- the face

    int feed(int... five) {
        if (tape.length() + 20 > 700) return -1;
        for (int x : five) for (int i = 3; i >= 0; i--) tape.append((char) (x >> 8 * i & 255));
        return tape.length();
    }

    int fault() { return fault; }

    static int bits(Iterable<Integer> set) {
        int b = 0;
        for (int p : set) b |= 1 << p;
        return b;
    }

    static void no(boolean wrong) { if (wrong) throw new NoSuchElementException(); }
    static void bad(boolean wrong) { if (wrong) throw new IllegalArgumentException(); }
    void p(int p) { no(p < 0 || p >= now.n()); }
    void h(int h) { no(h < 0 || h >= now.houses.size()); }
    static void what(int w, int last) { no(w < 0 || w > last); }

    int alone(State s) {
        int b = 0;
        for (List<Integer> h : s.houses) if (h.size() == 1) b |= 1 << h.get(0);
        return b;
    }

    int stairs(State s) {
        List<Integer> z = s.sizes();
        for (int i = 0; i < z.size(); i++) if (z.get(i) != z.size() - i) return 0;
        return 1;
    }

    int greatest(State s) { return s.houses.isEmpty() ? 0 : s.sizes().get(0); }

    int friendsIn(State s) {
        int c = 0;
        for (int[] f : friends) if (s.one(f[0], f[1])) c++;
        return c;
    }

    int pasts() {
        if (now.n() == 0) return 1;
        int[] found = new int[1];
        partitions(now.n(), now.n(), new ArrayList<>(), found);
        return found[0];
    }

    void partitions(int left, int most, List<Integer> parts, int[] found) {
        if (left == 0) {
            List<Integer> then = new ArrayList<>();
            for (int x : parts) if (x > 1) then.add(x - 1);
            then.add(parts.size());
            then.sort((x, y) -> y - x);
            if (then.equals(now.sizes())) found[0]++;
            return;
        }
        for (int x = Math.min(left, most); x >= 1; x--) {
            parts.add(x);
            partitions(left - x, x, parts, found);
            parts.remove(parts.size() - 1);
        }
    }

    int told() {
        int best = -1;
        for (int set = (1 << now.n()) - 1; set >= 0; set--) {
            boolean all = true;
            for (int[] f : friends) if ((set & (1 << f[0] | 1 << f[1])) == 0) all = false;
            if (all && (best < 0 || Integer.bitCount(set) <= Integer.bitCount(best))) best = set;
        }
        return best;
    }

    int count(int what) {
        what(what, 16);
        switch (what) {
            case 0: return now.n();
            case 1: return now.houses.size();
            case 2: return now.evening;
            case 3: return greatest(now);
            case 4: return alone(now);
            case 5: return stairs(now);
            case 6: return pasts();
            case 7: return pasts() == 0 ? 1 : 0;
            case 8: return friends.size();
            case 9: return friendsIn(now);
            case 10: return told();
            case 11: return acts.size();
            case 12: return seen.size();
            case 13: return tape.length();
            default: return status[what - 14];
        }
    }

    int friendBits(int p) {
        int b = 0;
        for (int[] f : friends) {
            if (f[0] == p) b |= 1 << f[1];
            if (f[1] == p) b |= 1 << f[0];
        }
        return b;
    }

    int person(int p, int what) {
        p(p);
        what(what, 8);
        int home = now.home(p);
        switch (what) {
            case 0: return home;
            case 1: return now.houses.get(home).indexOf(p);
            case 2: return now.rank[p];
            case 3: return now.gone[p];
            case 4: return now.evening - now.came[p];
            case 5: return bits(now.houses.get(home)) - (1 << p);
            case 6: return friendBits(p);
            case 7: return goer(now, home, List.of()) == p ? 1 : 0;
            default: return bestRow()[p] == 99 ? -1 : bestRow()[p];
        }
    }

    int house(int h, int what) {
        h(h);
        what(what, 6);
        List<Integer> house = now.houses.get(h);
        switch (what) {
            case 0: return house.size();
            case 1: return bits(house);
            case 2: return house.get(0);
            case 3: return house.get(house.size() - 1);
            case 4: return house.stream().mapToInt(p -> now.rank[p]).sum();
            case 5: return goer(now, h, List.of());
            default: return now.evening - now.founded.get(h);
        }
    }

    void act() {
        acts.add(now.copy());
        if (acts.size() > 40) acts.remove(0);
    }

    int evenings(int many) {
        if (many < 1 || many > 20 || now.evening + many > 9999) { status[1]++; return -1; }
        act();
        for (int i = 0; i < many; i++) pass(now, List.of());
        return now.evening;
    }

    int move(int p, int h) {
        p(p);
        h(h);
        int was = now.home(p);
        if (was == h) { status[1]++; return -1; }
        act();
        now.move(p, h);
        return was;
    }

    int found(int p) {
        p(p);
        if (now.houses.get(now.home(p)).size() == 1) { status[1]++; return -1; }
        act();
        now.found(p);
        return now.houses.size();
    }

    int join(int a, int b) {
        h(a);
        h(b);
        if (a == b) { status[1]++; return -1; }
        act();
        int someone = now.houses.get(b).get(0);
        now.join(a, b);
        return now.houses.get(now.home(someone)).size();
    }

    int rank(int p, int r) {
        p(p);
        int was = now.rank[p];
        if (r < 0 || r > 9 || r == was) { status[1]++; return -1; }
        act();
        now.rank[p] = r;
        return was;
    }

    int undo() {
        if (acts.isEmpty()) return -1;
        now = acts.remove(acts.size() - 1).copy();
        return acts.size();
    }

    int then(int p, int e, int what) {
        p(p);
        what(what, 3);
        bad(e < 0 || e > 100);
        State s = after(e);
        int home = s.home(p);
        switch (what) {
            case 0: return home;
            case 1: return s.houses.get(home).indexOf(p);
            case 2: return s.gone[p];
            default: return s.houses.get(home).size();
        }
    }

    int size(int i, int e) {
        bad(e < 0 || e > 100 || i < 0 || i > 11);
        List<Integer> z = after(e).sizes();
        return i < z.size() ? z.get(i) : -1;
    }

    int later(int e, int what) {
        what(what, 4);
        bad(e < 0 || e > 100);
        State s = after(e);
        switch (what) {
            case 0: return s.houses.size();
            case 1: return greatest(s);
            case 2: return alone(s);
            case 3: return friendsIn(s);
            default: return stairs(s);
        }
    }

    int meet(int a, int b, int what) {
        p(a);
        p(b);
        what(what, 1);
        if (a == b) return -1;
        List<State> w = way(now, 100);
        for (int i = 0; i <= 100; i++) if (w.get(i).one(a, b) == (what == 0)) return i;
        return -1;
    }

    int together(int a, int b, int e) {
        p(a);
        p(b);
        bad(e < 1 || e > 100);
        List<State> w = way(now, e);
        int c = 0;
        for (int i = 1; i <= e; i++) if (w.get(i).one(a, b)) c++;
        return c;
    }

    int goes(int p, int what) {
        p(p);
        what(what, 1);
        List<State> w = way(now, 100);
        StringBuilder line = new StringBuilder();
        for (int i = 1; i <= 100; i++) line.append(w.get(i).gone[p] > w.get(i - 1).gone[p] ? 'g' : '.');
        if (what == 0) return line.indexOf("g") < 0 ? -1 : line.indexOf("g") + 1;
        int most = 0;
        for (String run : line.toString().split("g")) most = Math.max(most, run.length());
        return most;
    }

    int falls(int h) {
        h(h);
        List<Integer> left = new ArrayList<>(now.houses.get(h));
        State s = now.copy();
        for (int i = 1; i <= 100; i++) {
            // The house itself is followed: it is the list object that this state holds.
            List<Integer> house = null;
            for (List<Integer> x : s.houses) if (x.containsAll(left)) house = x;
            pass(s, List.of());
            boolean there = false;
            for (List<Integer> x : s.houses) if (x == house) there = true;
            if (!there) return i;
            left = new ArrayList<>(house);
        }
        return -1;
    }

    int who(int h, int place, int e) {
        bad(h < 0 || h > 11 || place < 0 || place > 11 || e < 0 || e > 100);
        State s = after(e);
        return h < s.houses.size() && place < s.houses.get(h).size() ? s.houses.get(h).get(place) : -1;
    }

    int round(int what) {
        what(what, 1);
        List<List<Integer>> all = new ArrayList<>();
        for (State s : way(now, 200)) all.add(s.sizes());
        for (int i = 0; i <= 200; i++) {
            int again = all.subList(i + 1, 201).indexOf(all.get(i));
            if (again >= 0) return what == 0 ? i : again + 1;
        }
        return -1;
    }

    static TreeSet<String> groups(State s) {
        TreeSet<String> out = new TreeSet<>();
        for (List<Integer> h : s.houses) out.add(new TreeSet<>(h).toString());
        return out;
    }

    int asNow() {
        List<State> w = way(now, 200);
        for (int i = 1; i <= 200; i++) if (groups(w.get(i)).equals(groups(now))) return i;
        return -1;
    }

    static boolean met(List<State> w, int e, int a, int b) {
        for (int i = 0; i <= e; i++) if (w.get(i).one(a, b)) return true;
        return false;
    }

    int known(int p, int e) {
        p(p);
        bad(e < 0 || e > 100);
        List<State> w = way(now, e);
        int b = 0;
        for (int q = 0; q < now.n(); q++) if (q != p && met(w, e, p, q)) b |= 1 << q;
        return b;
    }

    int allKnown() { return allKnown(now); }

    int allKnown(State from) {
        boolean[][] met = new boolean[12][12];
        State s = from.copy();
        for (int i = 0; i <= 100; i++) {
            for (List<Integer> h : s.houses) for (int a : h) for (int b : h) met[a][b] = true;
            boolean all = true;
            for (int a = 0; a < s.n(); a++) for (int b = 0; b < s.n(); b++) all &= met[a][b];
            if (all) return i;
            pass(s, List.of());
        }
        return -1;
    }

    /** The first evening of 0 to most on which two live in one house, or most + 1. */
    int meeting(State from, int a, int b, int most) {
        State s = from.copy();
        for (int i = 0; i <= most; i++) {
            if (s.one(a, b)) return i;
            pass(s, List.of());
        }
        return most + 1;
    }

    int toMeet(int a, int b) {
        p(a);
        p(b);
        if (now.one(a, b)) return -1;
        int best = meeting(now, a, b, 60), answer = -1;
        for (int p = 0; p < now.n(); p++) {
            for (int h = 0; h < now.houses.size(); h++) {
                if (now.home(p) == h) continue;
                State s = now.copy();
                s.move(p, h);
                int t = meeting(s, a, b, 60);
                if (t > 0 && t < best) { best = t; answer = 100 * p + h; }
            }
        }
        return answer;
    }

    // Every way of coupling, one after the other in the order of rows.
    int bestPairs, bestDifference;
    int[] bestRow;

    int[] bestRow() {
        bestPairs = -1;
        bestRow = null;
        int[] row = new int[now.n()];
        Arrays.fill(row, -1);
        rows(0, row, 0, 0);
        return bestRow;
    }

    void rows(int p, int[] row, int pairs, int difference) {
        if (p == row.length) {
            if (pairs > bestPairs || pairs == bestPairs && difference < bestDifference) {
                bestPairs = pairs;
                bestDifference = difference;
                bestRow = row.clone();
            }
            return;
        }
        if (row[p] >= 0) { rows(p + 1, row, pairs, difference); return; }
        for (int q = p + 1; q < row.length; q++) {
            if (row[q] < 0 && now.one(p, q)) {
                row[p] = q;
                row[q] = p;
                rows(p + 1, row, pairs + 1, difference + Math.abs(now.rank[p] - now.rank[q]));
                row[p] = row[q] = -1;
            }
        }
        row[p] = 99;
        rows(p + 1, row, pairs, difference);
        row[p] = -1;
    }

    int partners(int what) {
        what(what, 1);
        bestRow();
        return what == 0 ? bestPairs : bestDifference;
    }

    int halves(int what) {
        what(what, 1);
        int best = 0, least = now.n() == 0 ? 0 : Integer.MAX_VALUE;
        for (int set = 0; set < 1 << now.n(); set++) {
            if (now.n() > 0 && set % 2 == 0) continue;
            int in = 0, out = 0;
            for (int p = 0; p < now.n(); p++) if ((set & 1 << p) != 0) in += now.rank[p]; else out += now.rank[p];
            if (Math.abs(in - out) < least) { least = Math.abs(in - out); best = set; }
        }
        return what == 0 ? least : best;
    }

    int chain(int a, int b) {
        p(a);
        p(b);
        int[] far = new int[now.n()];
        Arrays.fill(far, 1000);
        far[a] = 0;
        for (int k = 0; k < 20; k++) {
            for (int[] f : friends) {
                far[f[0]] = Math.min(far[f[0]], far[f[1]] + 1);
                far[f[1]] = Math.min(far[f[1]], far[f[0]] + 1);
            }
        }
        return far[b] >= 1000 ? -1 : far[b];
    }

    int see(int p, int e, int size) {
        p(p);
        if (seen.size() == 8 || e < 0 || e > 20 || size < 1 || size > 12) { status[2]++; return -1; }
        seen.add(new int[] {p, e, size});
        return seen.size();
    }

    void forget() { seen.clear(); }

    boolean so(State from) {
        List<State> w = way(from, 20);
        for (int[] x : seen) if (w.get(x[1]).houses.get(w.get(x[1]).home(x[0])).size() != x[2]) return false;
        return true;
    }

    List<int[]> candidates() {
        List<int[]> out = new ArrayList<>();
        for (int p = 0; p < now.n(); p++) {
            for (int r = 0; r <= 9; r++) {
                if (r == now.rank[p]) continue;
                State s = now.copy();
                s.rank[p] = r;
                if (so(s)) out.add(new int[] {p, r});
            }
        }
        return out;
    }

    int ranked(int what) {
        what(what, 2);
        if (what == 2) return so(now) ? 1 : 0;
        List<int[]> c = candidates();
        return what == 0 ? c.size() : c.isEmpty() ? -1 : 10 * c.get(0)[0] + c.get(0)[1];
    }

    int look(int what) {
        what(what, 1);
        List<TreeSet<Integer>> sizes = new ArrayList<>();
        for (int p = 0; p < now.n(); p++) sizes.add(new TreeSet<>());
        List<int[]> all = candidates();
        for (int[] c : all) {
            State s = now.copy();
            s.rank[c[0]] = c[1];
            State t = way(s, 5).get(5);
            for (int p = 0; p < now.n(); p++) sizes.get(p).add(t.houses.get(t.home(p)).size());
        }
        if (all.isEmpty()) return what == 0 ? -1 : 0;
        int best = 0;
        for (int p = 0; p < now.n(); p++) if (sizes.get(p).size() > sizes.get(best).size()) best = p;
        return what == 0 ? best : sizes.get(best).size();
    }

    int storms(int a, int b, int e, int tenths) {
        p(a);
        p(b);
        bad(e < 1 || e > 5 || tenths < 0 || tenths > 10);
        return likely(now, a, b, e, tenths);
    }

    int likely(State s, int a, int b, int e, int tenths) {
        if (e == 0) return s.one(a, b) ? 1 : 0;
        State calm = s.copy(), storm = s.copy();
        pass(calm, List.of());
        storm.evening++;
        return tenths * likely(storm, a, b, e - 1, tenths) + (10 - tenths) * likely(calm, a, b, e - 1, tenths);
    }

    int game(int a, int b, int what) {
        p(a);
        p(b);
        what(what, 1);
        bad(a == b);
        int[][][] g = new int[2][2][];
        for (int x = 0; x < 2; x++) {
            for (int y = 0; y < 2; y++) {
                List<Integer> hidden = new ArrayList<>();
                if (x == 1) hidden.add(a);
                if (y == 1) hidden.add(b);
                State s = now.copy();
                pass(s, hidden);
                for (int i = 0; i < 5; i++) pass(s, List.of());
                g[x][y] = new int[] {gain(s, a) - x, gain(s, b) - y};
            }
        }
        List<Integer> rest = new ArrayList<>();
        for (int x = 0; x < 2; x++) {
            for (int y = 0; y < 2; y++) {
                if (g[1 - x][y][0] <= g[x][y][0] && g[x][1 - y][1] <= g[x][y][1]) rest.add(10 * x + y);
            }
        }
        return what == 0 ? rest.size() : rest.isEmpty() ? -1 : rest.get(0);
    }

    int gain(State s, int p) {
        int g = 0;
        for (int q : s.houses.get(s.home(p))) g += 1 + (friendBits(p) >> q & 1);
        return g;
    }

    int seed;

    int draw(int n) {
        seed = (int) ((long) seed * 1103515245L + 12345L);
        return (int) ((seed & 0x7fffffffL) >> 16) % n;
    }

    int years(int seed0, int n, int what) {
        what(what, 2);
        bad(n < 0 || n > 100);
        seed = seed0;
        State s = now.copy();
        int goers = 0;
        for (int i = 0; i < n; i++) {
            int d = draw(6);
            if (s.n() > 0 && d == 0) {
                int p = draw(s.n());
                if (s.houses.get(s.home(p)).size() > 1) s.found(p);
            } else if (s.n() > 0 && d == 1) {
                int p = draw(s.n());
                s.rank[p] = draw(10);
            } else if (s.n() > 0 && d == 2) {
                int h = draw(s.houses.size());
                if (h > 0) s.join(h, 0);
            }
            goers += pass(s, List.of()).size();
        }
        return what == 0 ? goers : what == 1 ? s.houses.size() : greatest(s);
    }

    int ahead(int e, int what) {
        what(what, 3);
        bad(e < 0 || e > 100);
        List<State> w = way(now, e);
        State s = w.get(e);
        int best = -1, most;
        switch (what) {
            case 0:
                most = 0;
                for (int p = 0; p < s.n(); p++) if (s.gone[p] - now.gone[p] > most) { most = s.gone[p] - now.gone[p]; best = p; }
                return best;
            case 1:
                most = -1;
                for (int p = 0; p < s.n(); p++) if (s.evening - s.came[p] > most) { most = s.evening - s.came[p]; best = p; }
                return best;
            case 2:
                for (int f : s.founded) best = Math.max(best, s.evening - f);
                return best;
            default:
                int c = 0;
                for (int a = 0; a < s.n(); a++) for (int b = 0; b < a; b++) if (!met(w, e, a, b)) c++;
                return c;
        }
    }

    int toJoin() {
        int best = allKnown(now), answer = -1;
        if (best < 0) best = 101;
        for (int a = 0; a < now.houses.size(); a++) {
            for (int b = 0; b < now.houses.size(); b++) {
                if (a == b) continue;
                State s = now.copy();
                s.join(a, b);
                int t = allKnown(s);
                if (t >= 0 && t < best) { best = t; answer = 100 * a + b; }
            }
        }
        return answer;
    }

    void image() {
        imageNow = now.copy();
        imageActs = new ArrayList<>(acts);
        imageSeen = new ArrayList<>(seen);
    }

    int restore() {
        if (imageNow == null) return 0;
        now = imageNow.copy();
        acts = new ArrayList<>(imageActs);
        seen = new ArrayList<>(imageSeen);
        return 1;
    }
}
