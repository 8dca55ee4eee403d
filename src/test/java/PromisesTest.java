import java.util.NoSuchElementException;

/** Promise by promise: answers worked out by hand from the document, its edges, and wrong inputs. */
public final class PromisesTest {
    private static final String FIVE = "person 5;person 3;person 9;person 1;person 4;house 0 1 2;house 3;"
        + "friends 0 3;friends 1 4;friends 3 4;";
    // FIVE goes on so:            FRIENDS in one HOUSE
    //  0: 012 3 4                  0
    //  1: 01 234                   1 (3 4)
    //  2: 0 23 14                  1 (1 4)
    //  3: 2 1 034                  2
    //  4: 03 214                   2
    //  5: 0 21 34                  1
    //  6: 2 3 014                  1
    //  7: 01 234, as behind 1
    private static int wrong = 0;

    private interface Call { int run(); }

    private static void due(String what, int got, int want) {
        if (got != want) { wrong++; System.out.println(what + " answered " + got + ", due is " + want); }
    }

    private static void no(String what, Call call) { throwing(what, call, NoSuchElementException.class); }

    private static void bad(String what, Call call) { throwing(what, call, IllegalArgumentException.class); }

    private static void throwing(String what, Call call, Class<?> want) {
        String got;
        try {
            got = "answered " + call.run();
        } catch (RuntimeException e) {
            if (e.getClass() == want) return;
            got = "threw " + e;
        }
        wrong++;
        System.out.println(what + " " + got + ", due is " + want);
    }

    private static void feed(NewHouses x, String text) {
        for (int i = 0; i < text.length(); i += 20) {
            x.feed(Both.pack(text, i), Both.pack(text, i + 4), Both.pack(text, i + 8), Both.pack(text, i + 12), Both.pack(text, i + 16));
        }
    }

    private static NewHouses told(String text) {
        NewHouses x = new NewHouses();
        feed(x, text);
        due("village of " + text, x.village(text.length()), 0);
        return x;
    }

    private static void fault(String text, int fault, int place) {
        NewHouses x = new NewHouses();
        feed(x, text);
        due("fault of [" + text + "]", x.village(text.length()), fault);
        due("place in [" + text + "]", x.fault(), place);
    }

    private static String people(int... ranks) {
        StringBuilder s = new StringBuilder();
        for (int r : ranks) s.append("person ").append(r).append(';');
        return s.toString();
    }

    public static void main(String[] args) {
        newObject();
        feedAndVillage();
        faultsOfLines();
        faultsOfRules();
        values();
        counts();
        personsAndHouses();
        evenings();
        moves();
        foundsAndJoins();
        ranks();
        undos();
        thens();
        meets();
        goings();
        rounds();
        knowns();
        toMeets();
        partners();
        halvesAndChains();
        seens();
        storms();
        games();
        years();
        aheads();
        toJoins();
        images();
        changes();
        System.out.println(wrong == 0 ? "all promises are kept" : wrong + " answers are not as due");
        if (wrong != 0) System.exit(1);
    }

    // 1
    private static void newObject() {
        NewHouses x = new NewHouses();
        int[] counts = {0, 0, 0, 0, 0, 1, 1, 0, 0, 0, 0, 0, 0, 0, 0, 0, 0};
        for (int i = 0; i < counts.length; i++) due("new count " + i, x.count(i), counts[i]);
        due("new fault", x.fault(), -1);
        due("NONE", NewHouses.NONE, -1);
        no("new person", () -> x.person(0, 0));
        no("new house", () -> x.house(0, 0));
        due("new evenings", x.evenings(20), 20);
        due("new asNow", x.asNow(), 1);
        due("new toJoin", x.toJoin(), -1);
        due("new look", x.look(1), 0);
        due("new ranked", x.ranked(1), -1);
        due("new size", x.later(100, 1), 0);
        due("new partners", x.partners(1), 0);
        due("new years", x.years(-1, 100, 2), 0);
    }

    // 2, 3, 4
    private static void feedAndVillage() {
        NewHouses x = new NewHouses();
        String text = "person 7;";
        feed(x, text);
        bad("village of more than are there", () -> x.village(21));
        bad("village below 0", () -> x.village(-1));
        bad("village of the least int", () -> x.village(Integer.MIN_VALUE));
        due("the tape stays", x.count(13), 20);
        due("village", x.village(9), 0);
        due("the tape is empty", x.count(13), 0);
        due("rank of it", x.person(0, 2), 7);
        for (int i = 1; i <= 35; i++) due("feed " + i, x.feed(0x706572ff, 0, -1, 1, 2), 20 * i);
        due("feed too much", x.feed(0, 0, 0, 0, 0), -1);
        due("none come", x.count(13), 700);
        due("a fault", x.village(700), 1);
        due("its place", x.fault(), 0);
        due("refused texts", x.count(14), 1);
        due("the tape is empty behind a fault", x.count(13), 0);
        due("all stays", x.person(0, 2), 7);
        bad("village of 1 of none", () -> x.village(1));
        due("nothing changes: the place", x.fault(), 0);
        due("nothing changes: refused", x.count(14), 1);
        due("an empty village", x.village(0), 0);
        due("nobody", x.count(0), 0);
        due("no place", x.fault(), -1);

        NewHouses y = told(FIVE);
        y.evenings(3);
        y.see(0, 0, 3);
        y.rank(0, 5);
        y.see(0, 0, 0);
        y.image();
        feed(y, "person 0; person x;");
        due("a fault", y.village(19), 1);
        due("acts stay", y.count(11), 1);
        due("seen stays", y.count(12), 1);
        due("the evening stays", y.count(2), 3);
        due("friends stay", y.count(8), 3);
        due("the image stays", y.restore() ? 1 : 0, 1);
        feed(y, "person 0; picks rank;");
        due("anew", y.village(21), 0);
        due("acts are gone", y.count(11), 0);
        due("nothing to undo", y.undo(), -1);
        due("seen is gone", y.count(12), 0);
        due("the evening is 0", y.count(2), 0);
        due("friends are gone", y.count(8), 0);
        due("the image is gone", y.restore() ? 1 : 0, 0);
        due("status of texts stays", y.count(14), 1);
        due("status of acts stays", y.count(15), 1);
        due("status of seen stays", y.count(16), 1);
        feed(y, "person 0;person 0;house 0 1;");
        y.village(28);
        due("rules are gone", y.house(0, 5), 1);
    }

    // 3, 4
    private static void faultsOfLines() {
        fault("", 0, -1);
        fault(" \n \n", 0, -1);
        fault("person 9;", 0, -1);
        fault("person5;person\n5 ;", 0, -1);
        fault("person 0009;", 0, -1);
        fault("person 00009;", 2, 7);
        fault("person 10;", 2, 7);
        fault("person 99999999999999999999;", 2, 7);
        fault("person x;", 1, 7);
        fault("person -1;", 1, 7);
        fault("person", 1, 6);
        fault("person  ", 1, 8);
        fault("person 5", 1, 8);
        fault("person 5 \n", 1, 10);
        fault("person 5 5;", 1, 9);
        fault("persons 5;", 1, 0);
        fault("xerson 5;", 1, 0);
        fault("persox 5;", 1, 0);
        fault("per son 5;", 1, 0);
        fault("Person 5;", 1, 0);
        fault("person\t5;", 1, 6);
        fault("person\r5;", 1, 6);
        fault("person \u00e9;", 1, 7);
        fault("5", 1, 0);
        fault("  12345", 1, 2);
        fault(";", 1, 0);
        fault("person 5;;", 1, 9);
        fault("not 5;", 1, 0);
        String twelve = people(0, 0, 0, 0, 0, 0, 0, 0, 0, 0, 0, 0);
        fault(twelve, 0, -1);
        fault(twelve + " person 0;", 2, 109);
        fault(twelve + "person", 2, 108);
        fault("house;", 1, 5);
        fault("house 0;", 3, 6);
        fault("person 0;house 9999;", 3, 15);
        fault("person 0;house 10000;", 2, 15);
        fault("person 0;house 0 1;person 0;", 3, 17);
        fault("person 0;house 0 person 0;", 1, 17);
        fault("person 0;house 0 0;", 4, 17);
        fault("person 0;person 0;house 1;house 0 1;", 4, 34);
        fault("person 0;house 0", 1, 16);
        fault(twelve + "house 11;house 10;house 9;house 8;house 7;house 6;house 5;house 4;house 3;house 2;house 1;house 0;", 0, -1);
        fault(twelve + "house 0 1 2 3 4 5 6 7 8 9 10 11;house 12;", 3, 146);
        fault(twelve + "house 0 1 2 3 4 5 6 7 8 9 10 11;house 0;", 4, 146);
        String two = people(1, 1);
        fault(two + "friends 0 1;", 0, -1);
        fault(two + "friends 0 0;", 4, 28);
        fault(two + "friends 2 0;", 3, 26);
        fault(two + "friends 0 2;", 3, 28);
        fault(two + "friends 0;", 1, 27);
        fault(two + "friends 0 1 2;", 1, 30);
        fault(two + "friends 0 1;friends 0 1;", 4, 40);
        fault(two + "friends 0 1;friends 1 0;", 4, 40);
        StringBuilder friends = new StringBuilder(twelve);
        for (int i = 1; i < 10; i++) friends.append("friends 0 ").append(i).append(';');
        for (int i = 2; i < 5; i++) friends.append("friends 1 ").append(i).append(';');
        fault(friends.toString(), 0, -1);
        fault(friends + "friends 1 5;", 2, friends.length());
    }

    // 3, 4
    private static void faultsOfRules() {
        fault("picks;", 1, 5);
        fault("picks", 1, 5);
        fault("picks 1", 1, 7);
        fault("picks rank+place*size-since/moves<evening;", 0, -1);
        fault("keeps ranks+house*size-old<evening;", 0, -1);
        fault("picks ranks;", 3, 6);
        fault("picks house;", 3, 6);
        fault("picks old;", 3, 6);
        fault("keeps rank;", 3, 6);
        fault("keeps place;", 3, 6);
        fault("keeps since;", 3, 6);
        fault("keeps moves;", 3, 6);
        fault("picks x;", 3, 6);
        fault("picks z;", 3, 6);
        fault("picks aza;", 3, 6);
        fault("picks and;", 3, 6);
        fault("picks person 1;", 3, 6);
        fault("picks 1 person 1;", 1, 8);
        fault("picks 9999;", 0, -1);
        fault("picks 10000;", 2, 6);
        fault("picks 1+10000;", 2, 8);
        fault("picks 1 10000;", 1, 8);
        fault("picks 1 2;", 1, 8);
        fault("picks 1<2<3;", 1, 9);
        fault("picks 1<2=3;", 1, 9);
        fault("picks (1<2)=3;", 0, -1);
        fault("picks 1<2 and 2<3 or 3=3;", 0, -1);
        fault("picks 1+not 1;", 3, 8);
        fault("picks 1<not 1;", 3, 8);
        fault("picks 1 and not 1 or not 1;", 0, -1);
        fault("picks not;", 1, 9);
        fault("picks 1 and;", 1, 11);
        fault("picks -1;", 1, 6);
        fault("picks (1;", 1, 8);
        fault("picks 1);", 1, 7);
        fault("picks ();", 1, 7);
        fault("picks 1+;", 1, 8);
        fault("picks 1#;", 1, 7);
        fault("picks (((((1)))));", 0, -1);
        fault("picks (((((1)))))+(((((not 1)))));", 0, -1);
        fault("picks ((((((1))))));", 2, 12);
        fault("picks ((((((x", 2, 12);
        fault("picks ((((((not", 2, 12);
        fault("picks (((((((", 2, 12);
        fault("picks (((((()", 1, 12);
        fault("picks ((((((", 1, 12);
        fault("picks ((((((-", 1, 12);
        fault("picks not not not not not not 1;", 0, -1);
        fault("picks not not not not not not not 1;", 2, 30);
        fault("picks not not not not not not x;", 3, 30);
        fault("picks not not not not not not (not 1);", 0, -1);
        fault("picks not not not not not not 1 and not 1;", 0, -1);
        fault("picks 1;picks 1;", 5, 8);
        fault("keeps 1;person 3;keeps", 5, 17);
        fault("keeps 1;picks 1;", 0, -1);
    }

    /** The rule picks the one at the PLACE that the expression gives. */
    private static void value(String expr, int place) {
        due(expr, told(people(1, 1, 1, 1) + "house 0 1 2 3;picks place=" + expr + ";").house(0, 5), place);
    }

    // 3: what rules give
    private static void values() {
        value("7/2-1-1", 1);
        value("8/2/2", 2);
        value("2+3*4-12", 2);
        value("(2+3)*4-18", 2);
        value("(0-7)/2+4", 1);
        value("5/0", 0);
        value("(not 5)", 0);
        value("(not 0)+1", 2);
        value("(not not 7)", 1);
        value("(not 5=3)", 1);
        value("(3 and 5)", 1);
        value("(3 and 0)+3", 3);
        value("(0 or 7)", 1);
        value("(1 or 0 and 0)", 1);
        value("(1<2)+(2<2)+(2=2)", 2);
        value("(9999*9999*30<0)", 1);
        value("(0-3<0)+2", 3);
        // Of like ones the one farther behind goes; without a rule the last one.
        due("like ones", told(people(4, 9, 9, 1) + "house 2 0 1 3;picks rank;").house(0, 5), 1);
        due("all alike", told(people(4, 9, 9, 1) + "house 2 0 1 3;picks 7;").house(0, 5), 3);
        due("no rule", told(people(4, 9, 9, 1) + "house 2 0 1 3;").house(0, 5), 3);
        due("below 0", told(people(4, 9, 9, 1) + "house 2 0 1 3;picks 0-rank;").house(0, 5), 3);
        due("keeps 0", told(people(1) + "keeps 0;").house(0, 5), 0);
        due("keeps below 0", told(people(1) + "keeps 0-1;").house(0, 5), 0);
        due("keeps 1", told(people(1) + "keeps 1;").house(0, 5), -1);
        // KEEPS asks of HOUSES
        String houses = people(1, 2, 3) + "house 1 2;";
        due("keeps ranks", told(houses + "keeps ranks=5;").house(0, 5), -1);
        due("keeps ranks", told(houses + "keeps ranks=5;").house(1, 5), 0);
        due("keeps house", told(houses + "keeps house;").house(0, 5), 2);
        due("keeps house", told(houses + "keeps house;").house(1, 5), -1);
        due("keeps size", told(houses + "keeps size=1;").house(1, 5), -1);
        // 'old' and 'since' are 0 on the first EVENING behind that on which it was founded, one came.
        NewHouses x = told(people(0, 0, 0) + "house 0 1 2;keeps old=1;");
        due("on evening 0", x.evenings(1), 1);
        due("the first stays in", x.house(0, 5), -1);
        due("the new one doesn't", x.house(1, 5), 2);
        x.evenings(1);
        due("01 is 2 old", x.house(0, 6), 2);
        due("behind one more", x.person(2, 4), 0);
        NewHouses y = told(people(0, 0, 0, 0) + "house 0 1 2 3;picks since+moves*100;keeps size=1;");
        due("the last of like ones", y.house(0, 5), 3);
        y.evenings(1);
        y.move(3, 0);
        due("who has gone", y.house(0, 5), 3);
        due("who came now", y.person(3, 4), 0);
        due("evening", told(people(0, 0) + "house 0 1;picks evening-1+place*(0-1);").house(0, 5), 0);
    }

    // 5
    private static void counts() {
        NewHouses x = told(FIVE);
        int[] counts = {5, 3, 0, 3, 24, 0, 1, 0, 3, 0, 10, 0, 0, 0, 0, 0, 0};
        for (int i = 0; i < counts.length; i++) due("count " + i, x.count(i), counts[i]);
        no("count -1", () -> x.count(-1));
        no("count 17", () -> x.count(17));
        x.evenings(3);
        due("friends in one house", x.count(9), 2);
        due("the evening", x.count(2), 3);
        NewHouses stairs = told(people(0, 0, 0, 0, 0, 0) + "house 5 4;house 1;house 0 2 3;");
        due("stairs", stairs.count(5), 1);
        due("pasts of 3 2 1: of new 3, new 2", stairs.count(6), 2);
        NewHouses garden = told(people(0, 0, 0, 0) + "house 0 1;");
        due("pasts of 2 1 1: of new 2", garden.count(6), 1);
        NewHouses ones = told(people(0, 0, 0, 0));
        due("no pasts of 1 1 1 1", ones.count(6), 0);
        due("a garden", ones.count(7), 1);
        due("no stairs: 1 1 1 1", ones.count(5), 0);
        due("pasts of 2 2: of new 2, once", told(people(0, 0, 0, 0) + "house 0 1;house 2 3;").count(6), 1);
        due("told: nobody without friends", ones.count(10), 0);
        NewHouses ring = told(people(0, 0, 0, 0) + "friends 3 2;friends 2 1;friends 1 0;friends 0 3;");
        due("told in a ring", ring.count(10), 5);
    }

    // 6, 7
    private static void personsAndHouses() {
        NewHouses x = told(FIVE);
        x.evenings(2);
        // 0 23 14
        int[] of4 = {2, 1, 4, 2, 0, 2, 10, 1, 1};
        for (int i = 0; i < of4.length; i++) due("person 4, " + i, x.person(4, i), of4[i]);
        int[] of2 = {1, 0, 9, 1, 1, 8, 0, 0, 3};
        for (int i = 0; i < of2.length; i++) due("person 2, " + i, x.person(2, i), of2[i]);
        int[] of0 = {0, 0, 5, 0, 2, 0, 8, 1, -1};
        for (int i = 0; i < of0.length; i++) due("person 0, " + i, x.person(0, i), of0[i]);
        int[] house1 = {2, 12, 2, 3, 10, 3, 1};
        for (int i = 0; i < house1.length; i++) due("house 1, " + i, x.house(1, i), house1[i]);
        int[] house0 = {1, 1, 0, 0, 5, 0, 2};
        for (int i = 0; i < house0.length; i++) due("house 0, " + i, x.house(0, i), house0[i]);
        no("person -1", () -> x.person(-1, 0));
        no("person 5", () -> x.person(5, 0));
        no("person what", () -> x.person(0, 9));
        no("person what", () -> x.person(0, -1));
        no("house -1", () -> x.house(-1, 0));
        no("house 3", () -> x.house(3, 0));
        no("house what", () -> x.house(0, 7));
        no("house what", () -> x.house(0, -1));
    }

    // 8
    private static void evenings() {
        // A short text: the object comes to its 512th call.
        NewHouses x = told("person 0;");
        due("none", x.evenings(0), -1);
        due("too many", x.evenings(21), -1);
        due("below", x.evenings(-1), -1);
        due("refused", x.count(15), 3);
        due("most", x.evenings(20), 20);
        due("one act", x.count(11), 1);
        for (int i = 0; i < 498; i++) x.evenings(20);
        due("far", x.count(2), 9980);
        due("would be 10000", x.evenings(20), -1);
        due("9999", x.evenings(19), 9999);
        due("no more", x.evenings(1), -1);
        // Those behind come up; the new HOUSE is in the order of HOUSES, not of PEOPLE: 120 43 -> 10 3 24 -> 0 4 132 -> 13 042
        NewHouses y = told(people(1, 5, 9, 2, 7) + "house 1 2 0;house 4 3;picks rank;");
        y.evenings(1);
        row(y, 0, 1, 0);
        row(y, 1, 3);
        row(y, 2, 2, 4);
        y.evenings(1);
        row(y, 0, 0);
        row(y, 1, 4);
        row(y, 2, 1, 3, 2);
        y.evenings(1);
        row(y, 0, 1, 3);
        row(y, 1, 0, 4, 2);
        due("beyond is still told", x.then(0, 100, 2) - x.person(0, 3) > 0 ? 1 : 0, 1);
    }

    private static void row(NewHouses x, int house, int... people) {
        due("size of house " + house, x.house(house, 0), people.length);
        for (int i = 0; i < people.length; i++) {
            due("who in " + house + " at " + i, x.who(house, i, 0), people[i]);
            due("place of " + people[i], x.person(people[i], 1), i);
        }
    }

    // 9
    private static void moves() {
        NewHouses x = told(FIVE);
        x.evenings(1);
        // 01 234
        due("move", x.move(3, 0), 1);
        due("behind all", x.person(3, 1), 2);
        due("come up", x.person(4, 1), 1);
        due("moves stay", x.person(3, 3), 1);
        due("since", x.person(3, 4), 0);
        x.evenings(1);
        // 01 2 34
        due("lives there", x.move(0, 0), -1);
        due("refused", x.count(15), 1);
        due("alone", x.move(2, 2), 1);
        due("the house falls", x.count(1), 2);
        due("its number then", x.person(2, 0), 1);
        due("its place", x.person(2, 1), 2);
        due("the house's age stays", x.house(1, 6), 0);
        NewHouses y = told(people(0, 0, 0, 0) + "house 2 0 1;");
        y.move(2, 1);
        row(y, 0, 0, 1);
        row(y, 1, 3, 2);
        no("no such person", () -> x.move(5, 0));
        no("no such house", () -> x.move(0, 2));
        no("no such house", () -> x.move(0, -1));
        due("exceptions are not refused", x.count(15), 1);
    }

    // 10, 11
    private static void foundsAndJoins() {
        NewHouses x = told(FIVE);
        due("alone", x.found(3), -1);
        due("refused", x.count(15), 1);
        x.evenings(1);
        // 01 234
        due("found", x.found(2), 3);
        due("house of 2", x.person(2, 0), 2);
        due("since", x.person(2, 4), 0);
        due("moves stay", x.person(2, 3), 1);
        due("its age", x.house(2, 6), 0);
        due("come up", x.person(3, 1), 0);
        no("found -1", () -> x.found(-1));
        no("found 5", () -> x.found(5));
        x.evenings(1);
        // 01 34 2 -> 0 3 142
        due("1 went", x.person(1, 0), 2);
        due("join", x.join(2, 0), 4);
        // 0142 3
        due("houses", x.count(1), 2);
        due("order", x.who(0, 1, 0), 1);
        due("order", x.who(0, 3, 0), 2);
        due("age of that to which", x.house(0, 6), 2);
        due("since of those joined", x.person(4, 4), 0);
        due("since of those there", x.person(0, 4), 2);
        due("join to one behind", x.join(0, 1), 5);
        // 30142
        due("one house", x.count(1), 1);
        due("its first", x.house(0, 2), 3);
        due("its age", x.house(0, 6), 1);
        due("both are one", x.join(0, 0), -1);
        due("refused", x.count(15), 2);
        no("join 1", () -> x.join(1, 0));
        no("join to 1", () -> x.join(0, 1));
        no("join -1", () -> x.join(-1, -1));
    }

    // 12
    private static void ranks() {
        NewHouses x = told(FIVE);
        due("rank", x.rank(0, 0), 5);
        due("as it was", x.rank(0, 9), 0);
        due("it is so", x.rank(0, 9), -1);
        due("10", x.rank(0, 10), -1);
        due("-1", x.rank(0, -1), -1);
        due("refused", x.count(15), 3);
        due("acts", x.count(11), 2);
        no("rank of 5", () -> x.rank(5, 0));
        no("rank of -1 ahead", () -> x.rank(-1, 10));
    }

    // 13
    private static void undos() {
        NewHouses x = told(FIVE);
        due("none", x.undo(), -1);
        due("not counted", x.count(15), 0);
        for (int i = 0; i < 45; i++) x.evenings(1);
        due("kept", x.count(11), 40);
        due("undo", x.undo(), 39);
        due("the evening", x.count(2), 44);
        x.rank(0, 7);
        due("undo a rank", x.undo(), 39);
        due("rank", x.person(0, 2), 5);
        for (int i = 38; i >= 0; i--) {
            due("undo", x.undo(), i);
            due("the evening behind it", x.count(2), i + 5);
        }
        due("the evening", x.count(2), 5);
        due("no more", x.undo(), -1);
        x.move(3, 0);
        x.join(1, 0);
        x.found(0);
        due("undo", x.undo(), 2);
        due("undo", x.undo(), 1);
        due("undo", x.undo(), 0);
        // 0 21 34
        due("as it was", x.house(0, 1), 1);
        due("as it was", x.house(1, 2), 2);
        due("as it was", x.person(4, 0), 2);
        due("as it was", x.person(4, 1), 1);
        due("as it was", x.person(3, 4), 0);
        due("as it was", x.person(2, 4), 1);
    }

    // 14, 15, 16, 21
    private static void thens() {
        NewHouses x = told(FIVE);
        due("house", x.then(4, 5, 0), 2);
        due("place", x.then(4, 5, 1), 1);
        due("often", x.then(4, 5, 2), 5);
        due("how many", x.then(4, 4, 3), 3);
        due("now", x.then(2, 0, 1), 2);
        due("far", x.then(0, 100, 0), x.then(0, 4, 0));
        no("person", () -> x.then(5, 101, 0));
        no("what", () -> x.then(0, 101, 4));
        no("what", () -> x.then(0, 0, -1));
        bad("evenings", () -> x.then(0, 101, 0));
        bad("evenings", () -> x.then(0, -1, 0));
        due("nothing goes by", x.count(2), 0);
        due("greatest", x.size(0, 2), 2);
        due("second", x.size(1, 2), 2);
        due("third", x.size(2, 2), 1);
        due("fourth", x.size(3, 2), -1);
        due("twelfth", x.size(11, 100), -1);
        bad("i", () -> x.size(12, 0));
        bad("i", () -> x.size(-1, 0));
        bad("evenings", () -> x.size(0, 101));
        bad("evenings", () -> x.size(0, -1));
        int[][] later = {{3, 3, 24, 0, 0}, {2, 3, 0, 1, 0}, {3, 2, 1, 1, 0}, {3, 3, 6, 2, 0}, {2, 3, 0, 2, 0}};
        for (int e = 0; e < 5; e++) for (int w = 0; w < 5; w++) due("later " + e + " " + w, x.later(e, w), later[e][w]);
        due("stairs then", told(people(0, 0, 0) + "house 0 1 2;").later(1, 4), 1);
        no("what", () -> x.later(101, 5));
        no("what", () -> x.later(0, -1));
        bad("evenings", () -> x.later(101, 4));
        bad("evenings", () -> x.later(-1, 0));
        due("now", x.who(0, 2, 0), 2);
        due("now", x.size(0, 0), 3);
        due("who", x.who(1, 2, 1), 4);
        due("who", x.who(1, 0, 4), 2);
        due("no such place", x.who(1, 3, 4), -1);
        due("no such house", x.who(2, 0, 4), -1);
        due("the last ones", x.who(11, 11, 100), -1);
        bad("house", () -> x.who(12, 0, 0));
        bad("house", () -> x.who(-1, 0, 0));
        bad("place", () -> x.who(0, 12, 0));
        bad("place", () -> x.who(0, -1, 0));
        bad("evenings", () -> x.who(0, 0, 101));
        bad("evenings", () -> x.who(0, 0, -1));
    }

    // 17, 18
    private static void meets() {
        NewHouses x = told(FIVE);
        due("meet now", x.meet(0, 2, 0), 0);
        due("meet", x.meet(0, 4, 0), 3);
        due("never", x.meet(1, 3, 0), -1);
        due("part", x.meet(0, 2, 1), 1);
        due("apart now", x.meet(0, 4, 1), 0);
        due("both one", x.meet(3, 3, 0), -1);
        due("both one", x.meet(3, 3, 1), -1);
        due("never part", told(people(0, 0) + "house 0 1;keeps 1;").meet(0, 1, 1), -1);
        due("meet on the last", told(people(0, 0) + "keeps evening<99;").meet(0, 1, 0), 100);
        due("meet too late", told(people(0, 0) + "keeps evening<100;").meet(0, 1, 0), -1);
        due("part on the last", told(people(0, 0) + "house 0 1;keeps evening<99;").meet(0, 1, 1), 100);
        due("part too late", told(people(0, 0) + "house 0 1;keeps evening<100;").meet(0, 1, 1), -1);
        due("one evening", x.together(0, 1, 1), 1);
        no("what", () -> x.meet(0, 1, 2));
        no("what", () -> x.meet(0, 1, -1));
        no("person", () -> x.meet(5, 1, 0));
        no("other", () -> x.meet(0, 5, 0));
        due("together", x.together(3, 4, 6), 3);
        due("not now", x.together(0, 2, 100), 0);
        due("round and round", x.together(0, 1, 7), 3);
        due("with oneself", x.together(2, 2, 9), 9);
        no("person", () -> x.together(5, 0, 0));
        no("other", () -> x.together(0, -1, 0));
        bad("evenings", () -> x.together(0, 1, 0));
        bad("evenings", () -> x.together(0, 1, 101));
    }

    // 19, 20
    private static void goings() {
        NewHouses x = told(FIVE);
        int[] first = {3, 2, 1, 1, 1};
        for (int p = 0; p < 5; p++) due("goes " + p, x.goes(p, 0), first[p]);
        // 2 goes on 1, 4, 7, 10 ..; 0 on 3, 6, 9? it is 3, then 6: of 01 1 goes on 8, 0 on 9.
        int[] stay = {2, 1, 2, 1, 0};
        for (int p = 0; p < 5; p++) due("stay " + p, x.goes(p, 1), stay[p]);
        due("never goes", told(people(0, 0) + "house 0 1;keeps 1;").goes(0, 0), -1);
        due("stays", told(people(0, 0) + "house 0 1;keeps 1;").goes(0, 1), 100);
        due("goes last", told(people(0) + "keeps evening<99;").goes(0, 0), 100);
        due("stays till then", told(people(0) + "keeps evening<99;").goes(0, 1), 99);
        due("goes too late", told(people(0) + "keeps evening<100;").goes(0, 0), -1);
        no("person", () -> x.goes(5, 0));
        no("what", () -> x.goes(0, 2));
        no("what", () -> x.goes(0, -1));
        due("falls", x.falls(0), 3);
        due("falls at once", x.falls(2), 1);
        due("never", told(people(0, 0) + "house 0 1;keeps size=1;").falls(0), -1);
        due("on the last", told(people(0) + "keeps evening<99;").falls(0), 100);
        due("too late", told(people(0) + "keeps evening<100;").falls(0), -1);
        no("house", () -> x.falls(3));
        no("house", () -> x.falls(-1));
    }

    // 22, 23
    private static void rounds() {
        NewHouses x = told(people(0, 0, 0, 0));
        // 1 1 1 1 -> 4 -> 3 1 -> 2 2 -> 2 1 1 -> 3 1
        due("begins", x.round(0), 2);
        due("long", x.round(1), 3);
        NewHouses six = told(people(0, 0, 0, 0, 0, 0) + "house 0 1 2;house 3 4;");
        due("3 2 1 stays", six.round(0), 0);
        due("3 2 1 stays", six.round(1), 1);
        // Nobody stays, each EVENING another one: 0 with its house alone is as now at once, if all stay in.
        due("all stay in", told(people(0, 0) + "house 0 1;keeps 1;").asNow(), 1);
        NewHouses late = told(people(0, 0) + "house 0 1;keeps not evening=199;");
        due("till 199 as now", late.asNow(), 1);
        due("at once", late.round(1), 1);
        NewHouses last = told(people(0, 0) + "house 0 1;keeps not (evening=0 or evening=199);");
        due("just within 200", last.asNow(), 200);
        due("2 comes again on the last", last.round(0), 0);
        due("2 comes again on the last", last.round(1), 200);
        NewHouses beyond = told(people(0, 0) + "house 0 1;keeps not (evening=0 or evening=200);");
        due("beyond 200", beyond.asNow(), -1);
        due("2 comes no more, 1 1 does", beyond.round(0), 1);
        due("2 comes no more, 1 1 does", beyond.round(1), 1);
        NewHouses far = told(people(0, 0, 0) + "house 0 1 2;keeps 0<evening and evening<199 or size=1 and evening=199;");
        // 012, then 01 2 for long, on the last 0 12
        due("not within 200", far.asNow(), -1);
        NewHouses back = told(people(0, 0, 0) + "house 0 1;picks 1;");
        // 01 2 -> 0 12 -> 1 02 -> 0? 1 and 2 go: 0 12
        due("never as now", back.asNow(), -1);
        NewHouses five = told(FIVE);
        five.evenings(1);
        due("as behind 6", five.asNow(), 6);
        no("what", () -> x.round(2));
        no("what", () -> x.round(-1));
    }

    // 24, 25
    private static void knowns() {
        NewHouses x = told(FIVE);
        int[] of0 = {6, 6, 6, 30, 30};
        for (int e = 0; e < of0.length; e++) due("known " + e, x.known(0, e), of0[e]);
        due("known 3", x.known(3, 100), 21);
        no("person", () -> x.known(5, 101));
        bad("evenings", () -> x.known(0, 101));
        bad("evenings", () -> x.known(0, -1));
        due("never all", x.allKnown(), -1);
        due("one", told(people(0)).allKnown(), 0);
        due("in one house", told(people(0, 0) + "house 1 0;").allKnown(), 0);
        due("in one house next", told(people(0, 0, 0)).allKnown(), 1);
        due("on the last", told(people(0, 0) + "keeps evening<99;").allKnown(), 100);
        due("too late", told(people(0, 0) + "keeps evening<100;").allKnown(), -1);
    }

    // 26
    private static void toMeets() {
        NewHouses x = told(people(0, 0, 0) + "house 0;house 1 2;");
        // 0 12 -> 1 02 -> 0 12: never; 2 to 0: 02 1 -> 0 21 -> 2 01
        due("2 to 0", x.toMeet(0, 1), 200);
        due("either way", x.toMeet(1, 0), 200);
        due("0 to 0", told(people(0, 0, 0) + "house 1;house 2 0;").toMeet(1, 2), 0);
        due("in one house", x.toMeet(1, 2), -1);
        due("one", x.toMeet(1, 1), -1);
        due("nothing moved", x.count(11), 0);
        due("sooner than 1 is none", told(people(0, 0, 0)).toMeet(0, 1), -1);
        due("none meet", told(people(0, 0, 0) + "house 0 1;keeps 1;").toMeet(0, 2), -1);
        // Two in a HOUSE never go; 2 to 3: 0 1 32, and 0 and 1 go together when HOUSES open.
        due("within 60", told(people(0, 0, 0, 0) + "house 0 2;keeps size=2 or evening<59;").toMeet(0, 1), 202);
        due("not within", told(people(0, 0, 0, 0) + "house 0 2;keeps size=2 or evening<60;").toMeet(0, 1), -1);
        // 3 02 1: only three in a HOUSE, and 1's, are not kept in. 3 to 1: 023 1 -> 23 01; 3's HOUSE falls, but the number is of now.
        due("number of now", told(people(9, 8, 0, 0) + "house 3;house 0 2;house 1;picks rank;keeps not (size=3 or ranks=8);").toMeet(0, 1), 301);
        no("person", () -> x.toMeet(3, 0));
        no("other", () -> x.toMeet(0, -1));
    }

    // 27, 6
    private static void partners() {
        row(people(5, 5, 5, 5) + "house 3 2 1 0;", 2, 0, 1, 0, 3, 2);
        row(people(5, 5, 5) + "house 2 1 0;", 1, 0, 1, 0, -1);
        row(people(0, 9, 9) + "house 0 1 2;", 1, 0, -1, 2, 1);
        row(people(1, 5, 5, 9) + "house 0 1 2 3;", 2, 8, 1, 0, 3, 2);
        row(people(1, 9, 2, 8) + "house 0 1 2 3;", 2, 2, 2, 3, 0, 1);
        row(people(1, 9, 2, 8) + "house 0 1;house 2 3;", 2, 14, 1, 0, 3, 2);
        row(people(3, 3, 3), 0, 0, -1, -1, -1);
        row(people(5, 5, 4, 9) + "house 0 1 2 3;", 2, 5, 1, 0, 3, 2);
        // 0 could be left out, too: 4 5 and 8 9 are as near, but a row with nobody is behind all.
        row(people(5, 4, 6, 0, 1) + "house 0 1 2 3 4;", 2, 2, 1, 0, -1, 4, 3);
        NewHouses x = told(FIVE);
        no("what", () -> x.partners(2));
        no("what", () -> x.partners(-1));
    }

    private static void row(String text, int many, int much, int... row) {
        NewHouses x = told(text);
        due("how many of " + text, x.partners(0), many);
        due("how much of " + text, x.partners(1), much);
        for (int p = 0; p < row.length; p++) due("partner of " + p + " in " + text, x.person(p, 8), row[p]);
    }

    // 28, 29
    private static void halvesAndChains() {
        NewHouses x = told(FIVE);
        due("by", x.halves(0), 2);
        due("half", x.halves(1), 19);
        due("one", told(people(7)).halves(0), 7);
        due("one", told(people(7)).halves(1), 1);
        due("noughts", told(people(0, 0, 0)).halves(1), 1);
        due("like", told(people(3, 3, 3, 3)).halves(1), 3);
        due("even", told(people(3, 3, 3, 3)).halves(0), 0);
        no("what", () -> x.halves(2));
        no("what", () -> x.halves(-1));
        due("chain", x.chain(0, 3), 1);
        due("chain", x.chain(0, 4), 2);
        due("chain", x.chain(1, 0), 3);
        due("oneself", x.chain(2, 2), 0);
        due("none", x.chain(2, 0), -1);
        StringBuilder row = new StringBuilder(people(0, 0, 0, 0, 0, 0, 0, 0, 0, 0, 0, 0));
        for (int i = 0; i < 11; i++) row.append("friends ").append(i + 1).append(' ').append(i).append(';');
        due("the longest", told(row.toString()).chain(11, 0), 11);
        no("person", () -> x.chain(5, 0));
        no("other", () -> x.chain(0, 5));
    }

    // 30, 31, 32, 33
    private static void seens() {
        NewHouses x = told(people(0, 5, 5) + "house 0 1 2;picks rank;keeps size<3;");
        due("below", x.see(0, -1, 1), -1);
        due("late", x.see(0, 21, 1), -1);
        due("no size", x.see(0, 0, 0), -1);
        due("too great", x.see(0, 0, 13), -1);
        due("refused", x.count(16), 4);
        no("person ahead", () -> x.see(3, 21, 0));
        due("all by none", x.ranked(0), 27);
        due("first by none", x.ranked(1), 1);
        due("so by none", x.ranked(2), 1);
        due("look by all: 0, 1, 2 alone or not", x.look(1), 2);
        due("the least", x.look(0), 0);
        due("see", x.see(1, 1, 1), 1);
        due("not so without", x.ranked(2), 0);
        due("1 above 5, or 2 below", x.ranked(0), 9);
        due("first", x.ranked(1), 16);
        due("by these all is one way", x.look(1), 1);
        due("the least", x.look(0), 0);
        due("see", x.see(1, 0, 12), 2);
        due("nothing fits", x.ranked(0), 0);
        due("no first", x.ranked(1), -1);
        due("nobody", x.look(0), -1);
        due("none", x.look(1), 0);
        for (int i = 3; i <= 8; i++) due("see", x.see(2, 20, 1), i);
        due("a ninth", x.see(2, 20, 1), -1);
        due("count", x.count(12), 8);
        x.forget();
        due("forgotten", x.count(12), 0);
        due("see", x.see(0, 1, 1), 1);
        due("0 above 5", x.ranked(0), 4);
        due("first", x.ranked(1), 6);
        x.forget();
        x.see(0, 20, 2);
        x.see(0, 0, 3);
        due("so", x.ranked(2), 1);
        due("now is behind an evening", x.evenings(1), 1);
        due("from now on", x.ranked(2), 0);
        // LOOK is behind 5, whenever something was SEEN: three stay in till then, or one goes on the fifth.
        NewHouses y = told(people(0, 5, 5) + "house 0 1 2;picks rank;keeps evening<5;");
        y.see(0, 1, 3);
        due("all in one", y.look(1), 1);
        NewHouses z = told(people(0, 5, 5) + "house 0 1 2;picks rank;keeps evening<4;");
        z.see(0, 1, 3);
        due("alone or not", z.look(1), 2);
        no("what", () -> x.ranked(3));
        no("what", () -> x.ranked(-1));
        no("what", () -> x.look(2));
        no("what", () -> x.look(-1));
    }

    // 34
    private static void storms() {
        NewHouses x = told(FIVE);
        // 3 and 4: together behind 1 and 3 EVENINGS that are no storms, not behind 0 and 2.
        due("one", x.storms(3, 4, 1, 3), 7);
        due("two: just one", x.storms(3, 4, 2, 3), 42);
        due("three: one or three", x.storms(4, 3, 3, 3), 3 * 63 + 343);
        due("always storms", x.storms(3, 4, 5, 10), 0);
        due("always storms", x.storms(0, 1, 5, 10), 100000);
        due("never storms", x.storms(3, 4, 3, 0), 1000);
        due("oneself", x.storms(2, 2, 2, 1), 100);
        // A storm is an EVENING, too.
        due("the evening goes on", told(people(0, 0) + "keeps evening=1;").storms(0, 1, 2, 5), 50);
        no("person ahead", () -> x.storms(5, 0, 6, 11));
        no("other", () -> x.storms(0, -1, 1, 1));
        bad("evenings", () -> x.storms(0, 1, 0, 1));
        bad("evenings", () -> x.storms(0, 1, 6, 1));
        bad("tenths", () -> x.storms(0, 1, 1, 11));
        bad("tenths", () -> x.storms(0, 1, 1, -1));
    }

    // 35
    private static void games() {
        NewHouses x = told(people(0, 5, 5) + "house 0 1 2;picks rank;keeps size<3;");
        due("rest", x.game(1, 2, 0), 3);
        due("first", x.game(1, 2, 1), 0);
        due("from the other side", x.game(2, 1, 0), 3);
        // Who is left with 0 is among 2, who goes alone; 2 is a FRIEND of 0: 2 hides for 2 and 1 less 1.
        NewHouses f = told(people(0, 5, 5) + "house 0 1 2;picks rank;keeps size<3;friends 0 2;");
        due("friends count", f.game(1, 2, 0), 2);
        due("1 not, 2 hides", f.game(1, 2, 1), 1);
        due("2 hides, 1 not", f.game(2, 1, 1), 10);
        // Who hides loses 1, picked or not.
        NewHouses kept = told(people(0, 0) + "house 0 1;keeps 1;");
        due("nobody hides", kept.game(0, 1, 0), 1);
        due("nobody hides", kept.game(0, 1, 1), 0);
        // 0 1 -> 01 -> 0 1 ..: apart behind 6, but together, if anybody hides.
        NewHouses two = told(people(0, 0));
        due("all but both", two.game(0, 1, 0), 3);
        due("nobody hides first", two.game(0, 1, 1), 0);
        NewHouses pals = told(people(0, 0) + "friends 1 0;");
        due("just one", pals.game(0, 1, 0), 2);
        due("the other one first", pals.game(0, 1, 1), 1);
        // Behind 6: 2 10 for 3, 1; if 2 hides 0 12 for 1, 2; if 0 hides 1 20 for 1, 2; if both 2 01 for 2, 0.
        NewHouses never = told(people(0, 0, 0) + "picks 0-since*3-place;friends 1 0;friends 1 2;");
        due("none rests", never.game(0, 2, 0), 0);
        due("none is first", never.game(0, 2, 1), -1);
        no("what ahead", () -> x.game(1, 1, 2));
        no("what", () -> x.game(1, 2, -1));
        no("person", () -> x.game(3, 0, 0));
        no("other", () -> x.game(0, 3, 0));
        bad("both are one", () -> x.game(1, 1, 0));
    }

    // 36
    private static void years() {
        NewHouses x = told(FIVE);
        due("none go", x.years(77, 0, 0), 0);
        due("houses", x.years(77, 0, 1), 3);
        due("greatest", x.years(77, 0, 2), 3);
        // Seed 0: 12345, of which bits 16 to 30 are 0, FOUNDS; then 21468, MOD 5 is 3: PERSON 3, who lives alone.
        years(x, 0, 3, 2, 3);
        // Seed 46: PERSON 1 FOUNDS: 02 3 4 1 -> 0 2341; 14: PERSON 2: 01 3 4 2 -> 0 1342
        years(x, 46, 4, 2, 4);
        years(x, 14, 4, 2, 4);
        // Seeds 1, 2: HOUSE 1, 2 is JOINED: 0123 4 -> 012 34; 6: HOUSE 0; 3, 7, 11: nothing
        years(x, 1, 2, 2, 3);
        years(x, 2, 2, 2, 3);
        for (int seed : new int[] {3, 6, 7, 11}) years(x, seed, 3, 2, 3);
        // One HOUSE that stays in below 15: seed 24: PERSON 0 has RANK 5, 539: 4; 70: PERSON 1 has 9, 42: PERSON 2
        NewHouses y = told(people(0, 5, 5) + "house 0 1 2;keeps ranks<15;");
        years(y, 24, 1, 2, 2);
        years(y, 539, 0, 1, 3);
        years(y, 70, 0, 1, 3);
        NewHouses z = told(people(0, 6, 6) + "house 0 1 2;keeps ranks<15;");
        years(z, 70, 1, 2, 2);
        years(z, 42, 1, 2, 2);
        due("without people", new NewHouses().years(9, 100, 0), 0);
        due("nothing changes", x.count(2), 0);
        no("what ahead", () -> x.years(0, 101, 3));
        no("what", () -> x.years(0, 0, -1));
        bad("n", () -> x.years(0, 101, 0));
        bad("n", () -> x.years(0, -1, 0));
    }

    private static void years(NewHouses x, int seed, int go, int houses, int greatest) {
        due("go by " + seed, x.years(seed, 1, 0), go);
        due("houses by " + seed, x.years(seed, 1, 1), houses);
        due("greatest by " + seed, x.years(seed, 1, 2), greatest);
    }

    // 37
    private static void aheads() {
        NewHouses x = told(FIVE);
        due("nobody", x.ahead(0, 0), -1);
        due("of like ones the least", x.ahead(1, 0), 2);
        due("always 4", x.ahead(100, 0), 4);
        due("of like ones the least", x.ahead(0, 1), 0);
        due("steadiest", x.ahead(2, 1), 0);
        due("2 since 1", x.ahead(3, 1), 2);
        due("oldest", x.ahead(0, 2), 0);
        due("oldest", x.ahead(2, 2), 2);
        due("oldest", x.ahead(4, 2), 1);
        int[] strangers = {7, 4, 3, 1, 1};
        for (int e = 0; e < strangers.length; e++) due("strangers " + e, x.ahead(e, 3), strangers[e]);
        x.evenings(2);
        due("only those ahead", x.ahead(1, 0), 0);
        NewHouses kept = told(people(0, 0) + "keeps 1;");
        due("nobody goes", kept.ahead(100, 0), -1);
        due("old", kept.ahead(100, 2), 100);
        no("what ahead", () -> x.ahead(101, 4));
        no("what", () -> x.ahead(0, -1));
        bad("evenings", () -> x.ahead(101, 0));
        bad("evenings", () -> x.ahead(-1, 3));
    }

    // 38
    private static void toJoins() {
        due("0 to 1", told(people(0, 0)).toJoin(), 1);
        due("nothing is sooner than 1 but 0", told(people(0, 0, 0)).toJoin(), -1);
        due("none without", told(people(0, 0, 0) + "house 0 1;keeps 1;").toJoin(), 1);
        due("one house", told(people(0, 0) + "house 0 1;").toJoin(), -1);
        due("not by one", told(people(0, 0, 0) + "keeps 1;").toJoin(), -1);
        NewHouses x = told(people(0, 0, 0) + "keeps size=1;");
        // All alone stay so. 0 to 1: 10 2 -> 1 2 0: for ever.
        due("never", x.toJoin(), -1);
        // 01 2 3 -> 0 123 -> 12 03 ..: 0 and 2 never; 0 to 1: 201 3 -> 20 13 -> 2 1 03 -> 0 213
        NewHouses y = told(people(0, 0, 0, 0) + "house 0 1;");
        due("without", y.allKnown(), -1);
        due("0 to 1 for 3, others for none, or 3", y.toJoin(), 1);
        // 2 3 01: 2 to 0 for 3, as there; all others never.
        NewHouses z = told(people(0, 0, 0, 0) + "house 2;house 3;house 0 1;");
        due("without", z.allKnown(), -1);
        due("2 to 0", z.toJoin(), 200);
        z.join(2, 0);
        due("for 3", z.allKnown(), 3);
        // The first ones go. 0 to 1: 0124 3 -> 124 03 -> 24 3 10 -> 4 0 231 -> 31 402 -> 1 02 34, for 5;
        // 0 to 2: 0 3124 -> 124 03 -> 24 3 10 -> 4 0 231 -> 31 402, for 4; others for 4 or 5.
        NewHouses v = told(people(0, 0, 0, 0, 0) + "house 1 2 4;picks 0-place;");
        due("one sooner", v.toJoin(), 2);
        v.join(0, 2);
        due("for 4", v.allKnown(), 4);
    }

    // 39, 40
    private static void images() {
        NewHouses x = told(FIVE);
        due("none", x.restore() ? 1 : 0, 0);
        x.evenings(2);
        x.rank(0, 0);
        x.see(1, 2, 3);
        x.image();
        x.undo();
        x.undo();
        x.move(0, 1);
        x.forget();
        x.see(0, 0, 1);
        x.see(0, 0, 2);
        x.rank(0, 99);
        feed(x, "person");
        due("restore", x.restore() ? 1 : 0, 1);
        due("evening", x.count(2), 2);
        due("acts", x.count(11), 2);
        due("seen", x.count(12), 1);
        due("rank", x.person(0, 2), 0);
        due("house", x.person(4, 0), 2);
        due("since", x.person(0, 4), 2);
        due("often", x.person(4, 3), 2);
        due("status stays", x.count(15), 1);
        due("the tape stays", x.count(13), 20);
        due("undo", x.undo(), 1);
        due("rank", x.person(0, 2), 5);
        due("undo", x.undo(), 0);
        due("evening", x.count(2), 0);
        x.move(0, 1);
        due("again", x.restore() ? 1 : 0, 1);
        due("undo", x.undo(), 1);
        due("undo", x.undo(), 0);
        due("as told", x.house(0, 1), 7);
        x.evenings(5);
        x.image();
        x.evenings(5);
        due("the other one", x.restore() ? 1 : 0, 1);
        due("the other one", x.count(2), 5);
        due("its acts", x.count(11), 1);
        NewHouses y = told(people(0, 5, 5) + "house 0 1 2;picks rank;keeps size<3;");
        y.see(1, 1, 1);
        y.image();
        y.forget();
        y.see(0, 0, 3);
        due("so by what is seen now", y.ranked(0), 27);
        y.restore();
        due("so by what was seen", y.ranked(0), 9);
    }

    /** What was told of later holds no more when anything has changed. */
    private static void changes() {
        NewHouses x = told(FIVE);
        due("as told", x.later(2, 0), 3);
        x.move(3, 0);
        // 0123 4 -> 012 34 -> 01 3 24
        due("moved", x.later(2, 2), 8);
        x.undo();
        due("undone", x.later(2, 2), 1);
        x.found(2);
        // 01 3 4 2 -> 0 1342 -> 134 02
        due("founded", x.later(2, 0), 2);
        x.undo();
        x.later(2, 0);
        x.join(1, 2);
        // 012 43 -> 01 4 23 -> 0 2 143
        due("joined", x.later(2, 2), 5);
        x.undo();
        x.image();
        x.evenings(2);
        // 0 23 14 -> 2 1 034 -> 03 214
        due("behind evenings", x.later(2, 2), 0);
        x.restore();
        due("restored", x.later(2, 2), 1);
        NewHouses y = told(people(0, 1) + "house 0 1;picks rank;keeps size<2;");
        due("1 goes", y.goes(1, 0), 1);
        y.rank(0, 5);
        due("0 goes", y.goes(1, 0), -1);
        feed(y, "person 0;person 0;house 1 0;");
        y.village(28);
        due("another village", y.goes(1, 0), 2);
    }
}
