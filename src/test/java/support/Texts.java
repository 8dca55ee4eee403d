import java.util.ArrayList;
import java.util.List;
import java.util.Random;

/** Villages as texts, by a random source with a seed; some of them spoilt. */
final class Texts {
    private static final String[] PICKS = {"rank", "place", "size", "since", "moves", "evening"};
    private static final String[] KEEPS = {"size", "house", "ranks", "old", "evening"};
    private static final String[] SPOIL = {";", "(", ")", "+", "-", "*", "/", "<", "=", "not", "and", "or", "person", "house",
        "friends", "picks", "keeps", "rank", "size", "ranks", "evening", "old", "x", "0", "5", "11", "12", "99", "9999",
        "10000", "00000", "007", "#", "A", "\t", "\u00e9", "\u0000", "(((((1)))))", "((((((1))))))", "((((((", "not not not not not not 1",
        "not not not not not not not 1", "not not not not not not x"};

    private final Random random;

    Texts(Random random) { this.random = random; }

    private int below(int n) { return random.nextInt(n); }

    String village() {
        List<String> lines = new ArrayList<>();
        int n = below(8) == 0 ? 12 : below(13);
        for (int i = 0; i < n; i++) lines.add("person " + below(10) + ";");
        List<Integer> all = new ArrayList<>();
        for (int i = 0; i < n; i++) all.add(i);
        java.util.Collections.shuffle(all, random);
        int housed = below(4) == 0 ? below(n + 1) : n;
        int widest = 1 + below(6);
        for (int i = 0; i < housed;) {
            StringBuilder s = new StringBuilder("house");
            int k = 1 + below(widest);
            for (; k > 0 && i < housed; k--) s.append(' ').append(all.get(i++));
            lines.add(s.append(';').toString());
        }
        List<String> couples = new ArrayList<>();
        for (int a = 0; a < n; a++) for (int b = 0; b < a; b++) couples.add(below(2) == 0 ? a + " " + b : b + " " + a);
        java.util.Collections.shuffle(couples, random);
        int c = Math.min(couples.size(), below(13));
        for (int i = 0; i < c; i++) lines.add("friends " + couples.get(i) + ";");
        if (below(4) > 0) lines.add(below(lines.size() + 1), "picks " + picks() + ";");
        if (below(3) == 0) lines.add(below(lines.size() + 1), "keeps " + keeps() + ";");
        StringBuilder s = new StringBuilder();
        for (String line : lines) s.append(line).append(below(3) == 0 ? "\n" : below(2) == 0 ? " " : "");
        return s.toString();
    }

    /** Mostly such as pick another one than the last, for of random ones few do. */
    private String picks() {
        int k = 2 + below(4);
        switch (below(16)) {
            case 0: return "rank";
            case 1: return "0-rank";
            case 2: return "0-place";
            case 3: return "since*" + k + "+rank";
            case 4: return "0-since*" + k + "-place";
            case 5: return "moves*" + k + "+rank";
            case 6: return "0-moves";
            case 7: return "(rank+evening)-(rank+evening)/" + k + "*" + k;
            case 8: return "place=evening-evening/" + k + "*" + k;
            case 9: return "rank=moves or place<since";
            case 10: return "(size-place*" + k + ")*(evening-evening/2*2)";
            case 11: return "not rank<" + k + " and since<" + k;
            case 12: return "rank*rank-place*size*" + k;
            default: return expr(PICKS, 0);
        }
    }

    private String keeps() {
        switch (below(6)) {
            case 5: return "not ranks/" + (3 + below(9)) + "-evening/" + (1 + below(3)) + " and old<" + (1 + below(9));
            case 0: return "size<" + (1 + below(4));
            case 1: { int k = 2 + below(4); return "evening-evening/" + k + "*" + k + "=" + below(k); }
            case 2: return "old<" + below(3);
            case 3: return "ranks=" + below(20) + " or house=" + below(4);
            default: return expr(KEEPS, 0) + " and size < " + below(6);
        }
    }

    private String expr(String[] values, int depth) {
        StringBuilder s = new StringBuilder(and(values, depth));
        while (below(6) == 0) s.append(" or ").append(and(values, depth));
        return s.toString();
    }

    private String and(String[] values, int depth) {
        StringBuilder s = new StringBuilder(not(values, depth));
        while (below(6) == 0) s.append(" and ").append(not(values, depth));
        return s.toString();
    }

    private String not(String[] values, int depth) {
        StringBuilder s = new StringBuilder();
        for (int i = 0; i < 6 && below(6) == 0; i++) s.append("not ");
        s.append(sum(values, depth));
        if (below(4) == 0) s.append(below(2) == 0 ? "<" : " = ").append(sum(values, depth));
        return s.toString();
    }

    private String sum(String[] values, int depth) {
        StringBuilder s = new StringBuilder(product(values, depth));
        while (below(3) == 0) s.append(below(2) == 0 ? "+" : "-").append(product(values, depth));
        return s.toString();
    }

    private String product(String[] values, int depth) {
        StringBuilder s = new StringBuilder(part(values, depth));
        while (below(3) == 0) s.append(below(2) == 0 ? "*" : "/").append(part(values, depth));
        return s.toString();
    }

    private String part(String[] values, int depth) {
        if (depth < 5 && below(6) == 0) return "(" + expr(values, depth + 1) + ")";
        if (below(3) == 0) return String.valueOf(below(20) == 0 ? below(10000) : below(10));
        return values[below(values.length)];
    }

    /** A village in which a token or some bytes are put in, taken out or changed. */
    String spoilt() {
        List<Model.Token> ts = Model.tokens(village());
        List<String> words = new ArrayList<>();
        for (Model.Token t : ts) words.add(t.text);
        for (int k = 1 + below(2); k > 0; k--) {
            int at = below(words.size());
            switch (below(4)) {
                case 0: words.remove(at); if (words.isEmpty()) words.add(""); break;
                case 1: words.add(at, SPOIL[below(SPOIL.length)]); break;
                case 2: words.set(at, SPOIL[below(SPOIL.length)]); break;
                default: words = new ArrayList<>(words.subList(0, at + 1)); break;
            }
        }
        return String.join(below(4) == 0 ? "\n" : " ", words);
    }
}
