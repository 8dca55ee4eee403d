import java.util.List;

/** The edges that the document names of the tape, of TEXTS, of rules and their FAULTS (promises 1 to 4, and Terms). */
public final class EdgesOfTextsTest {
    private static final String[] OF_PICKS = {"rank", "place", "size", "since", "moves", "evening"};
    private static final String[] OF_KEEPS = {"size", "house", "ranks", "old", "evening"};

    public static void main(String[] args) {
        newObject();
        tape();
        villages();
        faultPlaces();
        limits();
        tokens();
        lines();
        housesUntold();
        exprs();
        numbersInRules();
        valuesOfRules();
        misplaced();
        tooMuch();
        exprsWithin();
        notsSideBySide();
        wordsForParts();
        peopleUntold();
        twice();
        secondRules();
        firstAndLeast();
        Edge.end("the edges of texts are as told");
    }

    // ---- promise 1

    private static void newObject() {
        Edge.says("`NewHouses()`: Nobody.");
        int[] counts = {0, 0, 0, 0, 0, 1, 1, 0, 0, 0, 0, 0, 0, 0, 0, 0, 0};
        for (int what = 0; what < counts.length; what++) {
            int w = what;
            Edge.due(NewHouses::new, x -> x.count(w), counts[what]);
        }
        Edge.due(NewHouses::new, NewHouses::fault, -1);
        Edge.due(NewHouses::new, NewHouses::undo, -1);
        Edge.due(NewHouses::new, x -> x.restore() ? 1 : 0, 0);
        Edge.no(NewHouses::new, x -> x.person(0, 0));
        Edge.no(NewHouses::new, x -> x.house(0, 0));
        Edge.says("`NONE = -1`: There is none; nobody.");
        Edge.due(NewHouses.NONE, -1);
        Edge.says("An object is used for at most 512 calls after it has been made");
        NewHouses x = Edge.told("person 0;");
        for (int call = 3; call <= 511; call++) x.evenings(call <= 501 ? 20 : 1);
        Edge.due(x.count(2), 499 * 20 + 10);
    }

    // ---- promise 2

    private static void tape() {
        Edge.says("Twenty bytes come behind the tape, of each number the highest first: how many it has");
        NewHouses x = new NewHouses();
        Edge.due(x.feed(0x70657273, 0x6f6e2037, 0x3b706572, 0x736f6e20, 0x383b6b65), 20);
        Edge.due(x.feed(0x65707320, 0x303b2020, 0x20202020, 0x20202020, 0x20202020), 40);
        Edge.due(x.count(13), 40);
        Edge.due(x.village(26), 0);
        Edge.due(x.person(0, 2), 7);
        Edge.due(x.person(1, 2), 8);
        Edge.says("NONE, and none come, if it would have more than 700.");
        NewHouses full = new NewHouses();
        for (int i = 1; i < 35; i++) Edge.due(full.feed(0x20202020, 0x20202020, 0x20202020, 0x20202020, 0x20202020), 20 * i);
        Edge.due(full.feed(0x20202020, 0x20202020, 0x20207065, 0x72736f6e, 0x2020373b), 700);
        Edge.due(full.feed(0x23232323, 0x23232323, 0x23232323, 0x23232323, 0x23232323), -1);
        Edge.due(full.count(13), 700);
        for (int status = 14; status <= 16; status++) Edge.due(full.count(status), 0);
        Edge.due(full.village(700), 0);
        Edge.due(full.person(0, 2), 7);
        Edge.due(full.feed(0, 0, 0, 0, 0), 20);
    }

    // ---- promise 3

    private static NewHouses lived() {
        NewHouses x = Edge.told(Edge.FIVE);
        x.evenings(2);
        x.rank(0, 7);
        x.see(1, 2, 2);
        x.image();
        x.evenings(21);
        x.see(1, 21, 2);
        return x;
    }

    private static void villages() {
        Edge.says("IllegalArgumentException: the tape has not so many, n below 0 (nothing changes).");
        for (int n : new int[] {-1, Edge.MIN, 21, 700, 701, Edge.MAX}) {
            Edge.bad(() -> { NewHouses x = lived(); Edge.feed(x, "person 8;"); return x; }, x -> x.village(n));
        }
        Edge.bad(NewHouses::new, x -> x.village(1));
        Edge.bad(() -> { NewHouses x = lived(); Edge.tell(x, "persom 8;"); return x; }, x -> x.village(1));
        Edge.due(() -> { NewHouses x = new NewHouses(); Edge.feed(x, "person 8;"); return x; }, x -> x.village(20), 0);

        Edge.says("The tape's first n bytes (it is empty then) are a VILLAGE, all anew");
        NewHouses first = new NewHouses();
        Edge.feed(first, "person 8;person 9;");
        Edge.due(first.village(9), 0);
        Edge.due(first.count(0), 1);
        Edge.due(first.count(13), 0);
        NewHouses none = lived();
        Edge.feed(none, "person 8;");
        Edge.due(none.village(0), 0);
        Edge.due(none.count(0), 0);
        Edge.due(none.count(1), 0);
        Edge.due(none.count(13), 0);
        Edge.due(EdgesOfTextsTest::lived, x -> Edge.tell(x, ""), 0);
        NewHouses anew = Edge.told("person 0;person 0;person 0;person 0;house 0 1 2 3;friends 0 1;picks 0-place;keeps size<3;");
        anew.evenings(3);
        Edge.due(Edge.tell(anew, "person 1;person 1;person 1;person 1;house 0 1 2;"), 0);
        Edge.due(anew.count(2), 0);
        Edge.due(anew.count(8), 0);
        Edge.due(anew.house(0, 5), 2);
        Edge.due(anew.house(1, 5), 3);
        for (int p = 0; p < 4; p++) Edge.due(anew.person(p, 3) + anew.person(p, 4), 0);
        for (int h = 0; h < 2; h++) Edge.due(anew.house(h, 6), 0);

        Edge.due(Edge.tell(anew, "person 0;person 0;house 0 1;picks 0-place;keeps 0;"), 0);
        Edge.due(anew.house(0, 5), 0);
        Edge.due(Edge.tell(anew, "person 0;person 0;house 0 1;picks place;keeps 1;"), 0);
        Edge.due(anew.house(0, 5), -1);
        Edge.due(Edge.tell(anew, "person 0;person 0;house 0 1;picks place;keeps 0;"), 0);
        Edge.due(anew.house(0, 5), 1);

        Edge.says("0, or the FAULT (all stays).");
        NewHouses stays = lived();
        List<Integer> before = Edge.all(stays);
        Edge.due(Edge.tell(stays, "person 1;house 0;friends 0 0;picks 0;keeps 0;"), 4);
        List<Integer> behind = Edge.all(stays);
        Edge.due(behind.set(14, 0), before.set(14, 0) + 1);
        Edge.due(behind.set(behind.size() - 1, -1), 27);
        Edge.holds(before.equals(behind));
        Edge.due(stays.restore() ? 1 : 0, 1);
        Edge.due(stays.undo(), 1);
        NewHouses rules = Edge.told("person 0;person 0;house 0 1;picks 0-place;");
        Edge.due(Edge.tell(rules, "person 0;person 0;house 0 1;picks place;keeps 1;;"), 1);
        Edge.due(rules.house(0, 5), 0);
        Edge.due(rules.count(13), 0);

        Edge.says("ACTS, what is SEEN, the image are gone (STATUS stays).");
        NewHouses gone = lived();
        Edge.tell(gone, "#");
        Edge.due(Edge.tell(gone, Edge.FIVE), 0);
        Edge.due(gone.count(11), 0);
        Edge.due(gone.undo(), -1);
        Edge.due(gone.count(12), 0);
        Edge.due(gone.restore() ? 1 : 0, 0);
        for (int status = 14; status <= 16; status++) Edge.due(gone.count(status), 1);
    }

    private static void faultPlaces() {
        Edge.says("The place of the latest village()'s FAULT; NONE without.");
        NewHouses x = Edge.told("person 0;");
        Edge.due(x.fault(), -1);
        Edge.tell(x, "person 0;person x;");
        Edge.due(x.fault(), 16);
        Edge.tell(x, "#");
        Edge.due(x.fault(), 0);
        Edge.tell(x, "person 0;");
        Edge.due(x.fault(), -1);
    }

    // ---- Terms: how much there may be

    private static void limits() {
        Edge.says("PEOPLE 0, 1 .. (at most 12): a RANK (0 to 9).");
        Edge.due(Edge.TWELVE, x -> x.count(0), 12);
        Edge.due(Edge.TWELVE, x -> x.person(11, 0), 11);
        Edge.fault(Edge.TWELVE + "person 0;", 2, 108);
        Edge.due("person 0;", x -> x.person(0, 2), 0);
        Edge.due("person 9;", x -> x.person(0, 2), 9);
        Edge.fault("person 10;", 2, 7);
        Edge.says("each is a row of one or more PEOPLE (PLACES 0, 1 ..)");
        Edge.fault("person 0;house;", 1, 14);
        Edge.due(Edge.TWELVE + "house 11 10 9 8 7 6 5 4 3 2 1 0;", x -> x.house(0, 0), 12);
        Edge.due(Edge.TWELVE + "house 11 10 9 8 7 6 5 4 3 2 1 0;", x -> x.person(0, 1), 11);
        Edge.due(Edge.TWELVE + "house 11 10 9 8 7 6 5 4 3 2 1 0;", x -> x.count(1), 1);
        Edge.says("FRIENDS: couples of PEOPLE (at most 12).");
        String most = Edge.TWELVE + couples(12);
        Edge.due(most, x -> x.count(8), 12);
        Edge.due(most, x -> x.person(0, 6), 0xffe);
        Edge.fault(most + "friends 2 3;", 2, most.length());
        Edge.says("A TEXT of at most 700 bytes tells it.");
        Edge.fine(Edge.blanks(700));
        Edge.due(Edge.blanks(691) + "person 7;", x -> x.person(0, 2), 7);
        Edge.fault(Edge.blanks(691) + "person 7", 1, 699);
        Edge.fault(Edge.blanks(692) + "person 7", 1, 700);
        Edge.fault(Edge.blanks(699) + "#", 1, 699);
        Edge.fault("picks 1" + "+1".repeat(346) + ";", 0, -1);
        Edge.fault("picks 1" + "+1".repeat(346) + "+", 1, 700);
    }

    /** FRIENDS of 0, then of 1: each couple once. */
    private static String couples(int many) {
        StringBuilder s = new StringBuilder();
        for (int i = 1; i <= many; i++) s.append(i < 12 ? "friends 0 " + i : "friends 2 " + (i - 11)).append(';');
        return s.toString();
    }

    // ---- Terms: TOKENS and LINES

    private static void tokens() {
        Edge.says("words (a .. z, the longest row)");
        Edge.fault("persons 5;", 1, 0);
        Edge.fault("xerson 5;", 1, 0);
        Edge.fault("persox 5;", 1, 0);
        Edge.fault("perso 5;", 1, 0);
        Edge.fault("personperson 5;", 1, 0);
        Edge.fault("Person 5;", 1, 0);
        Edge.fault("persoN 5;", 1, 0);
        Edge.fault("`person 5;", 1, 0);
        Edge.fault("person`5;", 1, 6);
        Edge.fault("person{5;", 1, 6);
        Edge.fault("picks a;", 3, 6);
        Edge.fault("picks z;", 3, 6);
        Edge.fault("picks rankz;", 3, 6);
        Edge.fault("picks arank;", 3, 6);
        Edge.fault("picks `;", 1, 6);
        Edge.fault("picks {;", 1, 6);
        Edge.says("NUMBERS (1 to 4 digits)");
        Edge.fine("person 0;person 00;person 000;person 0000;");
        Edge.due("person 0009;", x -> x.person(0, 2), 9);
        Edge.fine("picks 0+9+10+99+100+999+1000+9999;");
        Edge.fault("person 0:", 1, 8);
        Edge.fault("person /0;", 1, 7);
        Edge.fault("picks 1 2;", 1, 8);
        Edge.says("signs ; ( ) + - * / < =");
        Edge.fine("picks(1)+1-1*1/1<1;keeps(1)=1;");
        for (char c : "!\"#$%&',.:>?@[\\]^_`{|}~A\u0000\u007f\u0080\u00a0\u00ff".toCharArray()) {
            Edge.fault("picks 1" + c + "1;", 1, 7);
            Edge.fault("" + c, 1, 0);
        }
        Edge.says("blanks (32, 10) between them count for nothing");
        Edge.fine("  \n person \n\n 5\n;\n \n");
        Edge.fine("person5;house0;picks(rank)and(1)or not(place);");
        Edge.fine("picks 1and 1or 1;");
        for (char c : "\t\u000b\f\r\u0000\u001f!\u0085\u00a0".toCharArray()) {
            Edge.fault("person" + c + "5;", 1, 6);
            Edge.fault("person 5;" + c, 1, 9);
        }
        Edge.fault("per son 5;", 1, 0);
        Edge.fault("person 5\n5;", 1, 9);
    }

    private static void lines() {
        Edge.says("VILLAGE: LINE*.");
        Edge.fine("");
        Edge.fine(" ");
        Edge.fault(";", 1, 0);
        Edge.fault("person 0;;", 1, 9);
        Edge.fault("5;", 1, 0);
        Edge.fault("rank 5;", 1, 0);
        Edge.says("('person' RANK | 'house' PERSON PERSON* | 'friends' PERSON PERSON | ('picks' | 'keeps') EXPR) ';'");
        Edge.fault("person;", 1, 6);
        Edge.fault("person 0 0;", 1, 9);
        Edge.fault("person 0 person 0;", 1, 9);
        Edge.fault("person 0;house 0 house 0;", 1, 17);
        Edge.fault("person 0;person 0;friends;", 1, 25);
        Edge.fault("person 0;person 0;friends 0;", 1, 27);
        Edge.fault("person 0;person 0;friends 0 1 0;", 1, 30);
        Edge.fault("person 0;person 0;friends 0 1", 1, 29);
        Edge.fault("picks;", 1, 5);
        Edge.fault("keeps;", 1, 5);
        Edge.fault("picks 0 picks 0;", 1, 8);
        Edge.says("all in capitals but EXPR being NUMBERS");
        Edge.fault("person rank;", 1, 7);
        Edge.fault("person (0);", 1, 7);
        Edge.fault("person 0;house person;", 1, 15);
        Edge.fault("person 0;house (0);", 1, 15);
        Edge.fault("person 0;house 0+0;", 1, 16);
        Edge.fault("person 0;friends x 0;", 1, 17);
        Edge.fault("person 0;friends 0 x;", 1, 19);
        Edge.fault("person 0;friends -;", 1, 17);
    }

    private static void housesUntold() {
        Edge.says("PEOPLE of whom no HOUSE is told live alone, in HOUSES behind these, one behind the other.");
        NewHouses x = Edge.told("person 1;house 0;person 2;person 3;person 4;house 3;");
        int[] homes = {0, 2, 3, 1};
        for (int p = 0; p < 4; p++) {
            Edge.due(x.person(p, 0), homes[p]);
            Edge.due(x.person(p, 1), 0);
            Edge.due(x.person(p, 5), 0);
        }
        Edge.due(x.count(1), 4);
        NewHouses all = Edge.told(Edge.TWELVE);
        for (int p = 0; p < 12; p++) Edge.due(all.person(p, 0), p);
        Edge.due(Edge.TWELVE + "house 0 1 2 3 4 5 6 7 8 9 10;", y -> y.person(11, 0), 1);
    }

    // ---- Terms: what an EXPR gives

    /** PICKS gives most for the one at the PLACE that the EXPR gives: of five, so that the last one goes, if it gives no other. */
    private static void gives(String expr, int place) {
        Edge.due("person 1;person 1;person 1;person 1;person 1;house 0 1 2 3 4;picks place=" + expr + ";", x -> x.house(0, 5), place);
    }

    /** KEEPS gives more than 0, or not. */
    private static void keeps(String expr, boolean in) {
        Edge.due("person 1;keeps " + expr + ";", x -> x.house(0, 5), in ? -1 : 0);
    }

    private static void exprs() {
        Edge.says("EXPR: AND ('or' AND)*. AND: NOT ('and' NOT)*. NOT: 'not' NOT | SUM [('<' | '=') SUM].");
        keeps("1 or 0 and 0", true);
        keeps("(1 or 0) and 0", false);
        keeps("0 and 0 or 1", true);
        keeps("not 1 or 1", true);
        keeps("not (1 or 1)", false);
        keeps("not 0 and 0", false);
        keeps("not (0 and 0)", true);
        keeps("not 1=2", true);
        keeps("(not 1)=2", false);
        keeps("0 or 0 or 1", true);
        keeps("1 and 1 and 0", false);
        Edge.fault("keeps 1<2<3;", 1, 9);
        Edge.fault("keeps 1=2<3;", 1, 9);
        Edge.fault("keeps 1<2+3=3;", 1, 11);
        keeps("(1<2)<3", true);
        keeps("1<2 and 2<1", false);
        Edge.says("SUM: PRODUCT (('+' | '-') PRODUCT)*. PRODUCT: PART (('*' | '/') PART)*.");
        gives("1+1*2", 3);
        gives("(0+1)*2", 2);
        gives("7-2*3", 1);
        gives("6/2-2", 1);
        keeps("1+1<2*2", true);
        Edge.says("From the left");
        gives("9-4-3", 2);
        gives("9-4+3-6", 2);
        gives("8/4/2", 1);
        gives("3/2*2", 2);
        gives("2*3/4", 1);
    }

    private static void numbersInRules() {
        String min = "8192*8192*32";
        Edge.says("ints that wrap");
        keeps(min + "<0", true);
        keeps(min + "-1<0", false);
        keeps(min + "=0-" + min, true);
        keeps(min + "+" + min + "=0", true);
        keeps("8192*8192*31<0", false);
        keeps("8192*8192*64=0", true);
        keeps(min + "/(0-1)=" + min, true);
        keeps("(" + min + "-1)+1=" + min, true);
        Edge.says("/ cut down to 0");
        gives("7/2", 3);
        gives("1/2", 0);
        gives("(0-7)/2+4", 1);
        gives("(0-1)/2+1", 1);
        gives("7/(0-2)+4", 1);
        gives("(0-7)/(0-2)", 3);
        Edge.says("by 0 gives 0");
        gives("1/0", 0);
        gives("0/0+1", 1);
        gives("9999/(1-1)+2", 2);
        keeps(min + "/0=0", true);
        Edge.says("tests, not, and, or are 1 or 0 (what isn't 0 holds)");
        gives("(1<2)+(2=2)", 2);
        gives("(2<2)+(2=3)+(3<2)", 0);
        gives("(not 0)+(not 5)+(not (0-5))", 1);
        gives("(5 and 7)+(7 and (0-5))", 2);
        gives("(5 and 0)+(0 and 5)+(0 and 0)", 0);
        gives("(5 or 0)+(0 or (0-5))+(5 or 7)", 3);
        gives("(0 or 0)", 0);
        gives("(not not 9)+(not not (0-9))+(not not 0)", 2);
    }

    private static void valuesOfRules() {
        Edge.says("VALUES of PICKS, for a PERSON in a HOUSE: 'rank', 'place', 'size' (of the HOUSE), 'since'");
        for (String v : OF_PICKS) Edge.fine("picks " + v + ";");
        for (String v : new String[] {"house", "ranks", "old", "ran", "places", "friends", "picks"}) Edge.fault("picks " + v + ";", 3, 6);
        Edge.due("person 0;person 9;person 9;person 1;house 1 0 2 3;picks rank;", x -> x.house(0, 5), 2);
        Edge.due("person 0;person 9;person 9;person 1;house 1 0 2 3;picks place=1;", x -> x.house(0, 5), 0);
        Edge.due("person 0;person 0;person 0;person 0;house 1 0 2;picks (place=0)*(size=3);", x -> x.house(0, 5), 1);
        Edge.says("(for how many EVENINGS one has lived there: 0 on the first one behind that on which one came)");
        // All go on EVENING 0, and live together: on EVENING 1, on which they stay in, 'since' is 0, on 2 it is 1.
        NewHouses since = Edge.told("person 0;person 0;person 0;picks (0-place)*(since=1);keeps evening=1;");
        Edge.due(since.evenings(1), 1);
        Edge.due(since.person(0, 4), 0);
        Edge.due(since.evenings(1), 2);
        Edge.due(since.person(0, 4), 1);
        Edge.due(since.house(0, 5), 0);
        Edge.due("person 0;person 0;house 0 1;picks (0-place)*(since=0);", x -> x.house(0, 5), 0);
        Edge.says("'moves' (how often one has gone), 'evening'");
        // 012 -> 01 2; 2 lives behind 0 1 again, having gone once.
        NewHouses moves = Edge.told("person 0;person 0;person 0;house 0 1 2;picks 0-moves;");
        moves.evenings(1);
        moves.join(1, 0);
        Edge.due(moves.house(0, 5), 1);
        Edge.due(moves.person(2, 3), 1);
        NewHouses evening = Edge.told("person 0;person 0;house 0 1;picks (0-place)*(evening=20);keeps evening<20;");
        evening.evenings(20);
        Edge.due(evening.house(0, 5), 0);
        NewHouses first = Edge.told("person 0;person 0;person 0;house 0 1 2;picks (0-place)*(evening=1);");
        Edge.due(first.house(0, 5), 2);
        first.evenings(1);
        Edge.due(first.house(0, 5), 0);
        Edge.says("of KEEPS, for a HOUSE: 'size', 'house' (its number), 'ranks' (of all in it, together), 'old'");
        for (String v : OF_KEEPS) Edge.fine("keeps " + v + ";");
        for (String v : new String[] {"rank", "place", "since", "moves", "hous", "olds", "person"}) Edge.fault("keeps " + v + ";", 3, 6);
        String three = "person 9;person 9;person 4;house 0 1;house 2;";
        Edge.due(three + "keeps size=2;", x -> x.house(0, 5), -1);
        Edge.due(three + "keeps size=2;", x -> x.house(1, 5), 2);
        Edge.due(three + "keeps house;", x -> x.house(0, 5), 1);
        Edge.due(three + "keeps house;", x -> x.house(1, 5), -1);
        Edge.due(three + "keeps ranks=18;", x -> x.house(0, 5), -1);
        Edge.due(three + "keeps ranks=4;", x -> x.house(1, 5), -1);
        Edge.due(three + "keeps ranks=18;", x -> x.house(1, 5), 2);
        Edge.says("(how many EVENINGS ago it was founded, counted so, too), 'evening'");
        NewHouses old = Edge.told("person 0;person 0;person 0;house 0 1 2;keeps old=0 and evening or evening=0;");
        Edge.due(old.house(0, 5), -1);
        old.evenings(1);
        Edge.due(old.house(0, 6), 1);
        Edge.due(old.house(0, 5), 2);
        old.evenings(1);
        Edge.due(old.house(1, 6), 0);
        Edge.due(old.house(1, 5), -1);
        old.evenings(1);
        Edge.due(old.house(1, 6), 1);
        Edge.due(old.house(1, 5), 2);
        Edge.says("each HOUSE for which KEEPS gives more than 0 stays in (without it none does)");
        keeps("1", true);
        keeps("9999", true);
        keeps("0", false);
        keeps("0-1", false);
        keeps("8192*8192*32", false);
        Edge.due("person 0;", x -> x.house(0, 5), 0);
    }

    // ---- FAULTS

    private static void misplaced() {
        Edge.says("1 a TOKEN that can't stand there, or is none (the text's length where it ends too soon)");
        for (String s : new String[] {")", ";", "+", "-", "*", "/", "<", "="}) {
            Edge.fault("picks " + s + "1;", 1, 6);
            Edge.fault("picks (" + s + "1);", 1, 7);
            Edge.fault("picks 1+" + s + "1;", 1, 8);
            Edge.fault("picks 1 and " + s + "1;", 1, 12);
            Edge.fault("picks not " + s + "1;", 1, 10);
            if (!s.equals(";")) Edge.fault(s + "1;", 1, 0);
            if (!s.equals(";")) Edge.fault("person 0" + s + ";", 1, 8);
            Edge.fault("person " + s + ";", 1, 7);
        }
        Edge.fault("picks 1(1);", 1, 7);
        Edge.fault("picks 1);", 1, 7);
        Edge.fault("picks (1;", 1, 8);
        Edge.fault("picks (1));", 1, 9);
        Edge.fault("picks ();", 1, 7);
        Edge.fault("picks 1 not 1;", 1, 8);
        Edge.fault("picks 1 rank;", 1, 8);
        Edge.fault("picks 1 x;", 1, 8);
        Edge.fault("picks 1 person 0;", 1, 8);
        Edge.fault("picks 1 12345;", 1, 8);
        Edge.fault("12345", 1, 0);
        Edge.fault("person 0 12345;", 1, 9);
        Edge.fault("person #;", 1, 7);
        String[] short1 = {"person", "person 0", "person 0;house", "person 0;house 0", "person 0;person 0;friends",
            "person 0;person 0;friends 0", "person 0;person 0;friends 0 1", "picks", "picks 1", "picks 1+", "picks 1<",
            "picks not", "picks 1 and", "picks 1 or", "picks (", "picks (1", "keeps", "keeps size"};
        for (String s : short1) {
            Edge.fault(s, 1, s.length());
            Edge.fault(s + " \n ", 1, s.length() + 3);
        }
        NewHouses x = new NewHouses();
        Edge.feed(x, "person 0;person 1;");
        Edge.due(x.village(17), 1);
        Edge.due(x.fault(), 17);
        Edge.feed(x, "person 12345;");
        Edge.due(x.village(8), 1);
        Edge.due(x.fault(), 8);
    }

    private static void tooMuch() {
        Edge.says("2 one that can, but is too much: a NUMBER of 5 digits or more");
        Edge.fault("person 00000;", 2, 7);
        Edge.fault("person 12345;", 2, 7);
        Edge.fault("person " + "0".repeat(692) + ";", 2, 7);
        Edge.fault("person 4294967296;", 2, 7);
        Edge.fault("person 0;house 00000;", 2, 15);
        Edge.fault("person 0;person 0;house 0 00001;", 2, 26);
        Edge.fault("person 0;person 0;friends 00000 1;", 2, 26);
        Edge.fault("person 0;person 0;friends 0 00001;", 2, 28);
        Edge.fault("picks 00000;", 2, 6);
        Edge.fault("picks 10000;", 2, 6);
        Edge.fault("picks 1+99999;", 2, 8);
        Edge.fault("keeps (size<10000);", 2, 12);
        Edge.fault("keeps " + "9".repeat(694), 2, 6);
        Edge.fine("picks 9999;");
        Edge.says("or (not in an EXPR) not as told");
        Edge.fault("person 10;", 2, 7);
        Edge.fault("person 0010;", 2, 7);
        Edge.fault("person 9999;", 2, 7);
        Edge.fine("person 9;person 0009;");
        Edge.fine("picks 10+9999;");
        Edge.says("the first TOKEN of the 13th PERSON, the 13th 'friends'");
        Edge.fault(Edge.TWELVE + "  person 0;", 2, 110);
        Edge.fault(Edge.TWELVE + "person", 2, 108);
        Edge.fault(Edge.TWELVE + "person 10;", 2, 108);
        Edge.fault(Edge.TWELVE + "person #", 2, 108);
        Edge.fault(Edge.TWELVE + "persons 0;", 1, 108);
        Edge.fine(Edge.TWELVE + "house 11;");
        String friends = Edge.TWELVE + couples(12);
        Edge.fine(friends);
        Edge.fault(friends + " friends 10 11;", 2, friends.length() + 1);
        Edge.fault(friends + "friends", 2, friends.length());
        Edge.fault(friends + "friends 0 0;", 2, friends.length());
        Edge.fault(friends + "friends 99 #", 2, friends.length());
        Edge.fine(friends + "house 0;picks 0;keeps 0;");
    }

    private static void exprsWithin() {
        Edge.says("of an EXPR within 6 others (a NUMBER, any word, a parenthesis)");
        for (String rule : new String[] {"picks ", "keeps "}) {
            Edge.fine(rule + "(((((1)))));");
            Edge.fine(rule + "(((((size)))));");
            Edge.fine(rule + "(((((not size)))));");
            for (String s : new String[] {"1", "size", "x", "not", "and", "or", "person", "(", "12345", "not 1"}) {
                Edge.fault(rule + "((((((" + s + "))))));", 2, 12);
                Edge.fault(rule + "((((((" + s, 2, 12);
                Edge.fault(rule + "1+((((((" + s, 2, 14);
            }
            for (String s : new String[] {")", ";", "+", "-", "*", "/", "<", "=", "#", "A"}) Edge.fault(rule + "((((((" + s, 1, 12);
            Edge.fault(rule + "((((((", 1, 12);
            Edge.fault(rule + "(((((( ", 1, 13);
            // Side by side they are not within each other.
            Edge.fine(rule + "(((((1)))))+(((((1)))))*(((((1)))));");
            Edge.fine(rule + "((((1+(1))*(1)<(1)) and (1)) or (1));");
            Edge.fault(rule + "(((((1+(1))))));", 2, 14);
            Edge.fault(rule + "not (not (not (not (not (not (1))))));", 2, 36);
        }
    }

    private static void notsSideBySide() {
        Edge.says("the seventh 'not' side by side");
        String six = "not not not not not not ";
        Edge.fine("picks " + six + "1;");
        Edge.due("person 1;keeps " + six + "1;", x -> x.house(0, 5), -1);
        Edge.fault("picks " + six + "not 1;", 2, 30);
        Edge.fault("picks " + six + "not", 2, 30);
        Edge.fault("keeps " + six + "not not x;", 2, 30);
        Edge.fault("picks 1 and " + six + "not 1;", 2, 36);
        Edge.fault("picks " + six + ";", 1, 30);
        Edge.fault("picks " + six, 1, 30);
        Edge.fine("picks " + six + "(" + six + "1);");
        Edge.fine("picks " + six + "1 and " + six + "1 or " + six + "1;");
        Edge.fine("picks (" + six + "1)+(" + six + "1);");
        Edge.fault("picks (" + six + "not 1);", 2, 31);
        Edge.fault("picks " + six + "\n not 1;", 2, 32);
    }

    private static void wordsForParts() {
        Edge.says("3 any word where a PART must stand that is no VALUE of this EXPR");
        for (String w : new String[] {"x", "and", "or", "person", "house", "friends", "picks", "keeps", "ranks", "old", "nots"}) {
            Edge.fault("picks " + w + ";", 3, 6);
            Edge.fault("picks (" + w, 3, 7);
            Edge.fault("picks not " + w + ";", 3, 10);
            Edge.fault("picks 1+" + w + ";", 3, 8);
            Edge.fault("picks 1-" + w + ";", 3, 8);
            Edge.fault("picks 1*" + w + ";", 3, 8);
            Edge.fault("picks 1/" + w + ";", 3, 8);
            Edge.fault("picks 1<" + w + ";", 3, 8);
            Edge.fault("picks 1=" + w + ";", 3, 8);
            Edge.fault("picks 1 and " + w + ";", 3, 12);
            Edge.fault("picks 1 or " + w + ";", 3, 11);
        }
        for (String w : new String[] {"rank", "place", "since", "moves", "and", "or", "keeps"}) Edge.fault("keeps 1+" + w + ";", 3, 8);
        for (String s : new String[] {"+", "-", "*", "/", "<", "="}) Edge.fault("picks 1" + s + "not 1;", 3, 8);
        Edge.fine("picks 1 and not 1 or not 1;");
        Edge.fine("picks (not 1)+(not 1);");
    }

    private static void peopleUntold() {
        Edge.says("a PERSON that isn't told ahead, however great");
        Edge.fault("house 0;", 3, 6);
        Edge.fault("house 0;person 0;", 3, 6);
        Edge.fault("person 0;house 1;person 0;", 3, 15);
        Edge.fault("person 0;house 0 1;person 0;", 3, 17);
        Edge.fault("person 0;house 12;", 3, 15);
        Edge.fault("person 0;house 9999;", 3, 15);
        Edge.fault(Edge.TWELVE + "house 12;", 3, 114);
        Edge.fine(Edge.TWELVE + "house 11;");
        Edge.fine("person 0;house 0000;");
        Edge.fault("friends 0 1;", 3, 8);
        Edge.fault("person 0;friends 0 1;person 0;", 3, 19);
        Edge.fault("person 0;friends 1 0;person 0;", 3, 17);
        Edge.fault("person 0;friends 1 1;", 3, 17);
        Edge.fault("person 0;friends 0 9999;", 3, 19);
        Edge.fault("person 0;friends 9999 0;", 3, 17);
    }

    private static void twice() {
        Edge.says("4 a PERSON who is in a HOUSE already, the second of FRIENDS, if both are one, or are told so ahead, either way");
        String two = "person 0;person 0;";
        Edge.fault(two + "house 0 0;", 4, 26);
        Edge.fault(two + "house 0 1 0;", 4, 28);
        Edge.fault(two + "house 0;house 0;", 4, 32);
        Edge.fault(two + "house 0;house 1 0;", 4, 34);
        Edge.fault(two + "house 0 000;", 4, 26);
        Edge.fine(two + "house 1;house 0;");
        Edge.fault(two + "friends 0 0;", 4, 28);
        Edge.fault(two + "friends 1 001;", 4, 28);
        Edge.fault(two + "friends 0 1;friends 0 1;", 4, 40);
        Edge.fault(two + "friends 0 1;friends 1 0;", 4, 40);
        Edge.fault(two + "friends 1 0;friends 0 1;", 4, 40);
        Edge.fine(two + "person 0;friends 0 1;friends 1 2;friends 2 0;");
        Edge.fault(two + "person 0;friends 0 1;friends 1 2;friends 2 0;friends 2 1;", 4, 73);
    }

    private static void secondRules() {
        Edge.says("5 a second 'picks', 'keeps'");
        Edge.fault("picks 0;picks 0;", 5, 8);
        Edge.fault("keeps 0;keeps 0;", 5, 8);
        Edge.fault("picks 0;\n picks", 5, 10);
        Edge.fault("picks 0;keeps 0;person 0;keeps #", 5, 25);
        Edge.fine("picks 0;keeps 0;");
        Edge.fine("keeps 0;picks 0;");
        Edge.fault("picks 0 keeps 0;", 1, 8);
    }

    private static void firstAndLeast() {
        Edge.says("FAULTS, the first along the text, at a TOKEN's first byte, of one TOKEN the least");
        Edge.fault("person 10;person x;", 2, 7);
        Edge.fault("person 0;house 0 0;picks x;#", 4, 17);
        Edge.fault("picks x;picks 0;", 3, 6);
        Edge.fault("picks 0;picks x;", 5, 8);
        Edge.fault("person   \n 99999;", 2, 11);
        Edge.fault("person 0;friends 0 0;friends", 4, 19);
        // 2 and 3, 2 and 4: the NUMBER is too long, and nobody, or one who is told.
        Edge.fault("person 0;house 99999;", 2, 15);
        Edge.fault("person 0;house 0 00000;", 2, 17);
        Edge.fault("person 0;friends 0 00000;", 2, 19);
        // 1 and 2: it is too long where no NUMBER can stand. 2 and 3: no VALUE, too far within.
        Edge.fault("person 0;friends 0;99999;", 1, 18);
        Edge.fault("picks ((((((x;", 2, 12);
        Edge.fault("picks not not not not not not not;", 2, 30);
    }
}
