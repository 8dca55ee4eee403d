/** The edges that the document names of what is best, SEEN, likely, played, drawn (promises 26 to 36, 38). */
public final class EdgesOfTrialsTest {
    private static final int[] NO_WHAT_BUT_0_1 = {-1, 2, Edge.MIN, Edge.MAX};
    private static final String TWO = "person 0;person 0;";
    /** 2 goes, then nobody; if 1 has more than 5, or 2 less, 1 goes. */
    private static final String THREE = "person 0;person 5;person 5;house 0 1 2;picks rank;keeps size<3;";

    public static void main(String[] args) {
        toMeet();
        partners();
        halves();
        chain();
        see();
        forget();
        ranked();
        look();
        storms();
        stormsRefused();
        game();
        gains();
        years();
        draws();
        toJoin();
        Edge.end("the edges of trials are as told");
    }

    // ---- promise 26

    private static void toMeet() {
        Edge.says("TO MEET; NONE: none, they live in one HOUSE.");
        Edge.due(Edge.FIVE, x -> x.toMeet(0, 1), -1);
        Edge.due(Edge.FIVE, x -> x.toMeet(2, 0), -1);
        Edge.due(Edge.FIVE, x -> x.toMeet(3, 3), -1);
        Edge.due("person 0;", x -> x.toMeet(0, 0), -1);
        Edge.due(TWO + "keeps 1;", x -> x.toMeet(0, 1), -1);
        Edge.says("so that both live in one HOUSE soonest, within 60 EVENINGS, but not at once, if sooner than without");
        // HOUSES of two stay in. 2 to 3: 0|1|3 2, and 0 and 1 go together when others open: behind 60, or 61.
        String late = "person 0;person 0;person 0;person 0;house 0 2;keeps size=2 or evening<";
        Edge.due(late + "59;", x -> x.toMeet(0, 1), 202);
        Edge.due(late + "60;", x -> x.toMeet(0, 1), -1);
        // Who lives there at once isn't told, though they would live there for ever.
        Edge.due("person 0;person 0;person 0;house 0 1;keeps 1;", x -> x.toMeet(0, 2), -1);
        // 0|1 2 never meet; 2 to 0: 0 2|1 -> 0|2 1 -> 2|0 1, and at once are 0 to 1, 1 to 0.
        Edge.due("person 0;person 0;person 0;house 0;house 1 2;", x -> x.toMeet(0, 1), 200);
        // Alone they meet behind 1, and nothing is sooner.
        Edge.due("person 0;person 0;person 0;", x -> x.toMeet(0, 2), -1);
        // The first ones go. 0|1 2 -> 2|0 1 -> 1|2 0, behind 2; 1 to 0: 0 1|2 -> 1|0 2, behind 1.
        Edge.due("person 0;person 0;person 0;house 0;house 1 2;picks 0-place;", x -> x.meet(0, 2, 0), 2);
        Edge.due("person 0;person 0;person 0;house 0;house 1 2;picks 0-place;", x -> x.toMeet(0, 2), 100);
        // Just as soon is not sooner: 0 and 1 meet behind 2 without; by 2 or 3 elsewhere they do, too, but not behind 1.
        Edge.due("person 0;person 0;person 0;person 0;keeps evening=0;", x -> x.meet(0, 1, 0), 2);
        Edge.due("person 0;person 0;person 0;person 0;keeps evening=0;", x -> x.toMeet(0, 1), -1);
        Edge.says("100 by who, and HOUSE; of like ones the least; none.");
        // 1 to 4's HOUSE: 0 2|3|4 1 -> 0|4|2 3 1
        Edge.due(Edge.FIVE, x -> x.toMeet(1, 3), 102);
        Edge.due(Edge.FIVE, x -> x.toMeet(3, 1), 102);
        Edge.due("person 0;person 0;person 0;house 1;house 2 0;", x -> x.toMeet(1, 2), 0);
        Edge.due(Edge.TWELVE, x -> x.toMeet(0, 11), -1);
        Edge.due(Edge.TWELVE + "keeps 1;", x -> x.toMeet(0, 11), -1);
        // Nobody is moved.
        Edge.due(Edge.FIVE, x -> { x.toMeet(1, 3); return x.count(11) + x.person(1, 0); }, 0);
    }

    // ---- promises 27, 28, 29

    /** How many couples, how much they differ, and with whom each is. */
    private static void couples(String text, int many, int much, int... row) {
        Edge.due(text, x -> x.partners(0), many);
        Edge.due(text, x -> x.partners(1), much);
        for (int p = 0; p < row.length; p++) {
            int person = p;
            Edge.due(text, x -> x.person(person, 8), row[p]);
        }
    }

    private static void partners() {
        Edge.says("PARTNERS: how many (what 0), how much (1). NoSuchElementException: another what.");
        for (int what : NO_WHAT_BUT_0_1) Edge.no(Edge.FIVE, x -> x.partners(what));
        Edge.due(NewHouses::new, x -> x.partners(0), 0);
        Edge.due(NewHouses::new, x -> x.partners(1), 0);
        Edge.says("couples of PEOPLE of one HOUSE, each in one, as many as can");
        couples("person 9;", 0, 0, -1);
        couples(Edge.TWELVE, 0, 0, -1, -1, -1, -1, -1, -1, -1, -1, -1, -1, -1, -1);
        couples("person 0;person 9;house 0 1;", 1, 9, 1, 0);
        couples("person 0;person 9;", 0, 0, -1, -1);
        String one = "house 0 1 2 3 4 5 6 7 8 9 10 11;";
        couples(Edge.people(0, 9, 0, 9, 0, 9, 0, 9, 0, 9, 0, 9) + one, 6, 0, 2, 3, 0, 1, 6, 7, 4, 5, 10, 11, 8, 9);
        couples(Edge.people(0, 9, 9, 9, 9, 9, 9, 9, 9, 9, 9, 9) + one, 6, 9, 1, 0, 3, 2, 5, 4, 7, 6, 9, 8, 11, 10);
        couples(Edge.people(0, 1, 9, 9, 9, 9, 9, 9, 9, 9, 9, 9) + "house 1 2 3 4 5 6 7 8 9 10 11;", 5, 0, -1, -1, 3, 2, 5, 4, 7, 6, 9, 8, 11, 10);
        Edge.says("of these ways that by which RANKS differ least, all together");
        couples("person 0;person 4;person 5;person 9;house 0 1 2 3;", 2, 8, 1, 0, 3, 2);
        couples("person 4;person 0;person 9;person 5;house 0 1 2 3;", 2, 8, 1, 0, 3, 2);
        couples("person 4;person 9;person 0;person 5;house 0 1 2 3;", 2, 8, 2, 3, 0, 1);
        Edge.says("of like ones the first row (by PEOPLE: the other one; with nobody behind all)");
        couples("person 5;person 5;person 5;house 2 1 0;", 1, 0, 1, 0, -1);
        couples("person 5;person 4;person 6;house 0 1 2;", 1, 1, 1, 0, -1);
        couples("person 4;person 5;person 6;house 0 1 2;", 1, 1, 1, 0, -1);
        couples("person 0;person 5;person 5;house 0 1 2;", 1, 0, -1, 2, 1);
        couples("person 5;person 5;person 5;person 5;house 3 2 1 0;", 2, 0, 1, 0, 3, 2);
        couples("person 1;person 9;person 1;person 9;person 5;house 0 1 2 3 4;", 2, 0, 2, 3, 0, 1, -1);
        // 0 alone and 1 2, 3 4 are as near as 0 1 and others: nobody stands behind all.
        couples("person 3;person 4;person 5;person 6;person 7;house 0 1 2 3 4;", 2, 2, 1, 0, 3, 2, -1);
    }

    private static void halves() {
        Edge.says("HALVES: by how much (what 0), the one with PERSON 0 (1; bits; 0 without PEOPLE).");
        for (int what : NO_WHAT_BUT_0_1) Edge.no(Edge.FIVE, x -> x.halves(what));
        Edge.due(NewHouses::new, x -> x.halves(0), 0);
        Edge.due(NewHouses::new, x -> x.halves(1), 0);
        Edge.says("all PEOPLE in two sets (one may be empty) so that RANKS of these, summed, differ least");
        Edge.due("person 9;", x -> x.halves(0), 9);
        Edge.due("person 9;", x -> x.halves(1), 1);
        Edge.due("person 9;person 0;", x -> x.halves(0), 9);
        Edge.due("person 0;person 9;", x -> x.halves(0), 9);
        Edge.due(Edge.people(9, 9, 9, 9, 9, 9, 9, 9, 9, 9, 9, 9), x -> x.halves(0), 0);
        Edge.due(Edge.people(9, 9, 9, 9, 9, 9, 9, 9, 9, 9, 9), x -> x.halves(0), 9);
        Edge.due(Edge.people(0, 0, 0, 0, 0, 0, 0, 0, 0, 0, 0, 1), x -> x.halves(0), 1);
        Edge.says("the one with PERSON 0 (bits; of like ones the least)");
        Edge.due("person 9;person 0;", x -> x.halves(1), 1);
        Edge.due("person 0;person 9;", x -> x.halves(1), 1);
        Edge.due(Edge.TWELVE, x -> x.halves(1), 1);
        Edge.due(Edge.people(9, 9, 9, 9, 9, 9, 9, 9, 9, 9, 9, 9), x -> x.halves(1), 63);
        Edge.due(Edge.people(9, 9, 9, 9, 9, 9, 9, 9, 9, 9, 9), x -> x.halves(1), 31);
        Edge.due("person 1;person 2;person 3;", x -> x.halves(1), 3);
        Edge.due("person 3;person 2;person 1;", x -> x.halves(1), 1);
        Edge.due(Edge.people(0, 0, 0, 0, 0, 0, 0, 0, 0, 0, 9, 9), x -> x.halves(1), 1025);
    }

    private static void chain() {
        Edge.says("CHAIN: over how many FRIENDS, one behind the other, one comes from one to another one (0 to oneself); none.");
        Edge.due("person 0;", x -> x.chain(0, 0), 0);
        Edge.due(Edge.FIVE, x -> x.chain(3, 3), 0);
        Edge.due(TWO, x -> x.chain(0, 1), -1);
        Edge.due(TWO + "friends 1 0;", x -> x.chain(0, 1), 1);
        Edge.due(TWO + "friends 1 0;", x -> x.chain(1, 0), 1);
        Edge.due(Edge.FIVE, x -> x.chain(0, 2), -1);
        Edge.due(Edge.FIVE, x -> x.chain(2, 0), -1);
        Edge.due(Edge.FIVE, x -> x.chain(0, 1), 3);
        StringBuilder row = new StringBuilder(Edge.TWELVE);
        for (int i = 0; i < 11; i++) row.append("friends ").append(i).append(' ').append(i + 1).append(';');
        Edge.due(row.toString(), x -> x.chain(0, 11), 11);
        Edge.due(row.toString(), x -> x.chain(11, 0), 11);
        Edge.due(row + "friends 0 11;", x -> x.chain(0, 11), 1);
        Edge.due(row + "friends 0 11;", x -> x.chain(0, 6), 6);
        Edge.due(row + "friends 0 11;", x -> x.chain(0, 7), 5);
        // By either of two.
        Edge.due("person 0;person 0;person 0;person 0;friends 0 1;friends 0 2;friends 1 3;friends 2 3;", x -> x.chain(0, 3), 2);
        Edge.due("person 0;person 0;person 0;person 0;friends 1 0;friends 2 0;friends 3 1;friends 3 2;", x -> x.chain(0, 3), 2);
    }

    // ---- promises 30 to 33

    private static void see() {
        Edge.says("SEEN: how much is. NONE (STATUS 2): there are 8, not 0 to 20, not 1 to 12.");
        for (int e : new int[] {-1, 21, Edge.MIN, Edge.MAX}) Edge.refused(Edge.FIVE, 2, x -> x.see(0, e, 1));
        for (int size : new int[] {0, 13, -1, Edge.MIN, Edge.MAX}) Edge.refused(Edge.FIVE, 2, x -> x.see(0, 0, size));
        Edge.due(Edge.FIVE, x -> x.see(0, 0, 1), 1);
        Edge.due(Edge.FIVE, x -> x.see(4, 20, 12), 1);
        NewHouses x = Edge.told(Edge.FIVE);
        for (int i = 1; i <= 8; i++) Edge.due(x.see(0, 0, 3), i);
        Edge.due(x.count(12), 8);
        Edge.Made full = () -> {
            NewHouses y = Edge.told(Edge.FIVE);
            for (int i = 0; i < 8; i++) y.see(i % 5, i, 1 + i % 3);
            return y;
        };
        Edge.refused(full, 2, y -> y.see(0, 0, 1));
        Edge.refused(full, 2, y -> y.see(0, 21, 0));
        Edge.says("NoSuchElementException (ahead): no such PERSON.");
        Edge.no(full, y -> y.see(5, 0, 1));
        Edge.no(Edge.FIVE, y -> y.see(5, 21, 0));
        Edge.no(Edge.FIVE, y -> y.see(-1, 0, 13));
    }

    private static void forget() {
        Edge.says("All that is SEEN is forgotten.");
        NewHouses x = Edge.told(THREE);
        x.forget();
        Edge.due(x.count(12), 0);
        for (int i = 0; i < 8; i++) x.see(0, 0, 1);
        Edge.due(x.ranked(2), 0);
        x.forget();
        Edge.due(x.count(12), 0);
        Edge.due(x.ranked(2), 1);
        Edge.due(x.ranked(0), 27);
        for (int i = 1; i <= 8; i++) Edge.due(x.see(0, 0, 3), i);
        Edge.due(x.ranked(2), 1);
        Edge.due(x.count(16), 0);
        NewHouses none = new NewHouses();
        none.forget();
        Edge.due(none.count(12), 0);
    }

    /** RANKED of THREE, if that is SEEN. */
    private static void ranked(int who, int evenings, int size, int many, int first, int without) {
        int[] answers = {many, first, without};
        for (int what = 0; what <= 2; what++) {
            int w = what;
            Edge.due(THREE, x -> { x.see(who, evenings, size); return x.ranked(w); }, answers[w]);
        }
    }

    private static void ranked() {
        Edge.says("RANKED: how many (what 0), the first (1; NONE: none), whether without (2). NoSuchElementException: another what.");
        for (int what : new int[] {-1, 3, Edge.MIN, Edge.MAX}) Edge.no(Edge.FIVE, x -> x.ranked(what));
        Edge.due(NewHouses::new, x -> x.ranked(0), 0);
        Edge.due(NewHouses::new, x -> x.ranked(1), -1);
        Edge.due(NewHouses::new, x -> x.ranked(2), 1);
        Edge.says("PEOPLE and RANKS (0 to 9, another one than one has) by one of which now all SEEN would be so");
        Edge.due("person 0;", x -> x.ranked(0), 9);
        Edge.due("person 0;", x -> x.ranked(1), 1);
        Edge.due("person 5;", x -> x.ranked(1), 0);
        Edge.due(Edge.TWELVE, x -> x.ranked(0), 108);
        // Now three live there, whoever has which RANK.
        ranked(0, 0, 3, 27, 1, 1);
        ranked(0, 0, 12, 0, -1, 0);
        // 0 goes by 6 to 9; 1 by 6 to 9, or if 2 has 0 to 4; behind 20 it is as behind 1.
        ranked(0, 1, 1, 4, 6, 0);
        ranked(1, 1, 1, 9, 16, 0);
        ranked(1, 20, 1, 9, 16, 0);
        ranked(2, 20, 1, 14, 1, 1);
        // By 9 alone, by 0 alone.
        String nine = "person 0;person 8;person 8;house 1 0 2;picks rank;keeps size<3;";
        Edge.due(nine, x -> { x.see(0, 1, 1); return x.ranked(0); }, 1);
        Edge.due(nine, x -> { x.see(0, 1, 1); return x.ranked(1); }, 9);
        String nought = "person 1;person 1;person 1;house 0 1 2;picks 0-rank;keeps size<3;";
        Edge.due(nought, x -> { x.see(0, 1, 1); return x.ranked(0); }, 1);
        Edge.due(nought, x -> { x.see(0, 1, 1); return x.ranked(1); }, 0);
        // On the 20th EVENING HOUSES open first: behind 20 it is SEEN, behind 19 all is as now.
        String late = "person 0;person 5;person 5;house 0 1 2;picks rank;keeps evening<19;";
        Edge.due(late, x -> { x.see(0, 20, 1); return x.ranked(0); }, 4);
        Edge.due(late, x -> { x.see(0, 19, 1); return x.ranked(0); }, 0);
        Edge.due(late, x -> { x.see(0, 19, 3); return x.ranked(0); }, 27);
        // What was the first by others is not, if there is none.
        Edge.due(THREE, x -> { x.ranked(1); x.see(0, 0, 12); return x.ranked(1); }, -1);
        // All SEEN count, not one of them.
        Edge.due(THREE, x -> { x.see(0, 1, 1); x.see(0, 0, 2); return x.ranked(0); }, 0);
        Edge.due(THREE, x -> { x.see(0, 0, 3); x.see(0, 1, 1); x.see(1, 1, 2); return x.ranked(0); }, 4);
        Edge.says("the first (10 by who, and RANK); whether it is so without (1)");
        Edge.due(Edge.TWELVE + "house 0 1 2 3 4 5 6 7 8 9 10 11;picks rank*(place=11);keeps size<12;",
            x -> { x.rank(0, 1); x.see(11, 1, 1); return x.ranked(1); }, 0);
        Edge.due("person 0;person 9;house 1 0;picks rank;keeps size<2 or ranks<18;", x -> { x.see(0, 1, 1); return x.ranked(1); }, 9);
    }

    private static void look() {
        Edge.says("LOOK NEXT: who (what 0; NONE), how many (1; 0: none). NoSuchElementException: another what.");
        for (int what : NO_WHAT_BUT_0_1) Edge.no(Edge.FIVE, x -> x.look(what));
        Edge.says("how many unlike sizes; none without any");
        Edge.due(NewHouses::new, x -> x.look(0), -1);
        Edge.due(NewHouses::new, x -> x.look(1), 0);
        Edge.due(THREE, x -> { x.see(0, 0, 1); return x.look(0); }, -1);
        Edge.due(THREE, x -> { x.see(0, 0, 1); return x.look(1); }, 0);
        Edge.due("person 0;", x -> x.look(0), 0);
        Edge.due("person 0;", x -> x.look(1), 1);
        Edge.due(Edge.TWELVE, x -> x.look(0), 0);
        Edge.due(Edge.TWELVE, x -> x.look(1), 1);
        Edge.says("who behind 5 EVENINGS by these would live in HOUSES of most unlike sizes (of like ones the least)");
        Edge.due(THREE, x -> x.look(0), 0);
        Edge.due(THREE, x -> x.look(1), 2);
        // 2 lives alone anyhow: 0 and 1 are with each other or not.
        String open = "person 0;person 5;person 9;house 2;house 0 1;keeps ranks<6 or size=1 or evening<";
        Edge.due(open + "4;", x -> x.look(0), 0);
        Edge.due(open + "4;", x -> x.look(1), 2);
        Edge.due(open + "5;", x -> x.look(1), 1);
        Edge.due("person 9;person 5;person 0;house 0;house 2 1;keeps ranks<6 or size=1 or evening<4;", x -> x.look(0), 1);
        // Behind 5, not behind those for which something is SEEN; nor does one answer stay in another one.
        Edge.due("person 0;person 5;person 5;house 0 1 2;picks rank;keeps evening<4;", x -> { x.see(0, 1, 3); return x.look(1); }, 2);
        Edge.due("person 0;person 5;person 5;house 0 1 2;picks rank;keeps evening<5;", x -> { x.see(0, 1, 3); return x.look(1); }, 1);
        Edge.due(THREE, x -> { x.look(0); x.see(0, 0, 12); return x.look(0); }, -1);
        Edge.due(THREE, x -> { x.look(0); x.see(1, 1, 1); return x.look(1); }, 1);
        // By what is SEEN just those who part are left.
        Edge.due(open + "0;", x -> { x.see(0, 1, 1); return x.look(1); }, 1);
    }

    // ---- promise 34

    private static void storms() {
        Edge.says("STORMS: on each of so many EVENINGS (1 to 5) there is a STORM with so many tenths (0 to 10)");
        // TWO live together behind an odd number of EVENINGS without a STORM.
        Edge.due(TWO, x -> x.storms(0, 1, 1, 0), 10);
        Edge.due(TWO, x -> x.storms(0, 1, 1, 10), 0);
        Edge.due(TWO, x -> x.storms(0, 1, 1, 1), 9);
        Edge.due(TWO, x -> x.storms(1, 0, 1, 9), 1);
        Edge.due(TWO, x -> x.storms(0, 1, 2, 0), 0);
        Edge.due(TWO, x -> x.storms(0, 1, 2, 1), 18);
        Edge.due(TWO, x -> x.storms(0, 1, 5, 0), 100000);
        Edge.due(TWO, x -> x.storms(0, 1, 5, 10), 0);
        Edge.due(TWO, x -> x.storms(0, 1, 5, 9), 5 * 6561 + 10 * 81 + 1);
        Edge.due(TWO + "house 0 1;", x -> x.storms(0, 1, 5, 10), 100000);
        Edge.due(TWO, x -> x.storms(1, 1, 5, 3), 100000);
        Edge.says("nobody goes on it (all HOUSES stay in)");
        // A STORM is an EVENING as others: HOUSES open on the second one, and 'since' is 1 then.
        Edge.due(TWO + "keeps evening<1;", x -> x.storms(0, 1, 1, 3), 0);
        Edge.due(TWO + "keeps evening<1;", x -> x.storms(0, 1, 2, 3), 70);
        Edge.due("person 0;person 0;person 0;house 0 1;picks (0-place)*since;", x -> x.storms(1, 2, 1, 0), 10);
        Edge.due("person 0;person 0;person 0;house 0 1;picks (0-place)*since;", x -> x.storms(0, 2, 2, 5), 50);
        Edge.says("as so many of 10 to the power of these EVENINGS");
        for (int e = 1, all = 10; e <= 5; e++, all *= 10) {
            int evenings = e;
            Edge.due(TWO + "house 0 1;keeps 1;", x -> x.storms(0, 1, evenings, 7), all);
        }
    }

    private static void stormsRefused() {
        Edge.says("STORMS. IllegalArgumentException (behind NoSuchElementException): evenings, tenths.");
        for (int e : new int[] {0, 6, -1, Edge.MIN, Edge.MAX}) {
            Edge.bad(TWO, x -> x.storms(0, 1, e, 0));
            Edge.bad(TWO, x -> x.storms(0, 0, e, 10));
            Edge.no(TWO, x -> x.storms(2, 1, e, 0));
            Edge.no(TWO, x -> x.storms(0, 2, e, 0));
        }
        for (int tenths : new int[] {-1, 11, Edge.MIN, Edge.MAX}) {
            Edge.bad(TWO, x -> x.storms(0, 1, 1, tenths));
            Edge.bad(TWO, x -> x.storms(0, 1, 6, tenths));
            Edge.no(TWO, x -> x.storms(-1, 1, 1, tenths));
        }
        Edge.no(NewHouses::new, x -> x.storms(0, 0, 1, 0));
    }

    // ---- promise 35

    private static void game() {
        Edge.says("IllegalArgumentException (behind that): both are one.");
        for (int p = 0; p < 5; p++) {
            int person = p;
            Edge.bad(Edge.FIVE, x -> x.game(person, person, 0));
            Edge.bad(Edge.FIVE, x -> x.game(person, person, 1));
        }
        Edge.says("A GAME: how many couples rest (what 0), the first (1; NONE: none). NoSuchElementException: also another what.");
        for (int what : NO_WHAT_BUT_0_1) {
            Edge.no(Edge.FIVE, x -> x.game(0, 1, what));
            Edge.no(Edge.FIVE, x -> x.game(0, 0, what));
        }
        // Worked out in PromisesTest: behind 6 3, 1; 1, 2; 1, 2; 2, 0.
        String never = "person 0;person 0;person 0;picks 0-since*3-place;friends 1 0;friends 1 2;";
        Edge.due(never, x -> x.game(0, 2, 0), 0);
        Edge.due(never, x -> x.game(0, 2, 1), -1);
        Edge.says("(of the HOUSE the next best one goes; if there is none, nobody)");
        // THREE: who is picked goes alone; if 2 hides 1 goes, if both 0: 1 and 2 gain 2, and lose 1.
        Edge.due(THREE, x -> x.game(1, 2, 0), 3);
        Edge.due(THREE, x -> x.game(1, 2, 1), 0);
        // Alone one goes, and is alone; one who hides is so, too.
        Edge.due(TWO + "keeps evening;", x -> x.game(0, 1, 0), 1);
        Edge.due(TWO + "keeps evening;", x -> x.game(0, 1, 1), 0);
    }

    private static void gains() {
        Edge.says("each gains how many live in one's HOUSE behind 6 EVENINGS, and 1 for each FRIEND of one's own there");
        // Both stay in but on the sixth EVENING, or the seventh: behind 6 together, or alone; who hides loses 1.
        Edge.due(TWO + "keeps not evening=5;", x -> x.game(0, 1, 0), 1);
        Edge.due(TWO + "keeps not evening=5;", x -> x.game(0, 1, 1), 0);
        // Apart behind 6 but if one hides: 1, 1; 2, 1; 1, 2; 0, 0. FRIENDS gain 3: 1, 1; 3, 2; 2, 3; 0, 0.
        Edge.due(TWO, x -> x.game(0, 1, 0), 3);
        Edge.due(TWO, x -> x.game(0, 1, 1), 0);
        Edge.due(TWO + "friends 0 1;", x -> x.game(0, 1, 0), 2);
        Edge.due(TWO + "friends 0 1;", x -> x.game(0, 1, 1), 1);
        Edge.says("and loses 1, if one HIDES, be one picked or not");
        Edge.due(TWO + "house 0 1;keeps 1;", x -> x.game(0, 1, 0), 1);
        Edge.due(TWO + "house 0 1;keeps 1;", x -> x.game(0, 1, 1), 0);
        Edge.says("A couple RESTS, if neither gains more by the other choice: how many; the first (10 by the first one's and the other one's).");
        // 2 is picked and would be alone; 0 is its FRIEND: it hides for 3 less 1, 1 goes then, or 1 hides, too, and 0 goes.
        Edge.due(THREE + "friends 0 2;", x -> x.game(1, 2, 0), 2);
        Edge.due(THREE + "friends 0 2;", x -> x.game(1, 2, 1), 1);
        Edge.due(THREE + "friends 0 2;", x -> x.game(2, 1, 1), 10);
        // 0 1 2|3: behind 6 for 1, 2: 2|013 for 3, 1; if 2 hides 1|023 for 1, 2; if 1 does 2, 1; if both 0|123 for 2, 2.
        String both = "person 0;person 0;person 0;person 0;house 0 1 2;";
        Edge.due(both, x -> x.game(1, 2, 0), 1);
        Edge.due(both, x -> x.game(1, 2, 1), 11);
    }

    // ---- promise 36

    private static void years() {
        Edge.says("YEARS: how many go (what 0), HOUSES (1), in the greatest (2). NoSuchElementException: another what.");
        for (int what : new int[] {-1, 3, Edge.MIN, Edge.MAX}) {
            Edge.no(Edge.FIVE, x -> x.years(0, 0, what));
            Edge.no(Edge.FIVE, x -> x.years(0, 101, what));
        }
        Edge.says("IllegalArgumentException (behind that): n.");
        for (int n : new int[] {-1, 101, Edge.MIN, Edge.MAX}) {
            for (int what = 0; what <= 2; what++) {
                int w = what;
                Edge.bad(Edge.FIVE, x -> x.years(0, n, w));
            }
            Edge.bad(NewHouses::new, x -> x.years(0, n, 0));
        }
        Edge.says("n EVENINGS (0 to 100) from now on");
        for (int seed : new int[] {0, 1, -1, Edge.MIN, Edge.MAX}) {
            Edge.due(Edge.FIVE, x -> x.years(seed, 0, 0), 0);
            Edge.due(Edge.FIVE, x -> x.years(seed, 0, 1), 3);
            Edge.due(Edge.FIVE, x -> x.years(seed, 0, 2), 3);
            // One PERSON: nothing can befall but RANKS, and one goes on each of these.
            Edge.due("person 0;", x -> x.years(seed, 1, 0), 1);
            Edge.due("person 0;", x -> x.years(seed, 100, 0), 100);
            Edge.due("person 0;", x -> x.years(seed, 100, 1), 1);
            Edge.due("person 0;", x -> x.years(seed, 100, 2), 1);
            Edge.due("person 0;keeps evening=99;", x -> x.years(seed, 100, 0), 99);
            Edge.due("person 0;keeps evening=99;", x -> x.years(seed, 99, 0), 99);
        }
        Edge.says("(Without PEOPLE the DRAWS of 6 alone.)");
        for (int seed : new int[] {0, 7, -1, Edge.MIN, Edge.MAX}) {
            for (int what = 0; what <= 2; what++) {
                int w = what;
                Edge.due(NewHouses::new, x -> x.years(seed, 100, w), 0);
            }
        }
        Edge.due(Edge.FIVE, x -> { x.years(5, 100, 0); return x.count(2) + x.count(11) + x.house(0, 1); }, 7);
    }

    /** A seed whose first DRAWS, of these numbers, are these. */
    private static int seed(int... ofAndIs) {
        for (int seed = 0; seed < 10_000_000; seed++) {
            long s = seed;
            boolean fits = true;
            for (int i = 0; i < ofAndIs.length && fits; i += 2) {
                s = (s * 1103515245L + 12345L) % (1L << 32);
                fits = (s >> 16) % (1 << 15) % ofAndIs[i] == ofAndIs[i + 1];
            }
            if (fits) return seed;
        }
        throw new AssertionError("no such seed");
    }

    private static void years(String text, int seed, int go, int houses, int greatest) {
        Edge.due(text, x -> x.years(seed, 1, 0), go);
        Edge.due(text, x -> x.years(seed, 1, 1), houses);
        Edge.due(text, x -> x.years(seed, 1, 2), greatest);
    }

    private static void draws() {
        Edge.says("0 a DRAW of PEOPLE FOUNDS a HOUSE, if one doesn't live alone");
        // 0 1 2|3|4: by one of the first HOUSE 4 go, else 3.
        for (int p = 0; p < 5; p++) years(Edge.FIVE, seed(6, 0, 5, p), p < 3 ? 4 : 3, 2, p < 3 ? 4 : 3);
        Edge.says("1 the RANK of a DRAW of PEOPLE is a DRAW of 10");
        // One HOUSE that stays in, if PERSON p gets RANK r.
        for (int r = 0; r < 10; r++) {
            String text = "person 3;person 3;house 0 1;keeps ranks=" + (3 + r) + ";";
            years(text, seed(6, 1, 2, 0, 10, r), 0, 1, 2);
            years(text, seed(6, 1, 2, 1, 10, r), 0, 1, 2);
            years(text, seed(6, 1, 2, 1, 10, (r + 1) % 10), 1, 2, 1);
        }
        Edge.says("2 a DRAW of HOUSES is JOINED to HOUSE 0 (nothing, if it is that one)");
        years(Edge.FIVE, seed(6, 2, 3, 0), 3, 2, 3);
        years(Edge.FIVE, seed(6, 2, 3, 1), 2, 2, 3);
        years(Edge.FIVE, seed(6, 2, 3, 2), 2, 2, 3);
        years("person 0;", seed(6, 2, 1, 0), 1, 1, 1);
        Edge.says("ahead of each a DRAW of 6");
        for (int d = 3; d < 6; d++) years(Edge.FIVE, seed(6, d), 3, 2, 3);
        // Nothing befalls by 3, 4, 5, and nothing more is drawn: then HOUSE 1, of two, is JOINED to HOUSE 0.
        for (int d = 3; d < 6; d++) {
            int s = seed(6, d, 6, 2, 2, 1);
            Edge.due(TWO, x -> x.years(s, 2, 0), 2 + 1);
        }
        Edge.says("A seed becomes itself times 1103515245 and 12345 (an int that wraps); a DRAW of n is its bits 16 to 30 MOD n then.");
        // Bit 31 counts for nothing: a seed and that with bit 31 changed draw the same, for the factor is odd.
        for (int s = 0; s < 40; s++) {
            int seed = s * 977;
            NewHouses x = Edge.told(Edge.FIVE);
            for (int what = 0; what <= 2; what++) {
                Edge.due(x.years(seed, 1, what), x.years(seed ^ Edge.MIN, 1, what));
                Edge.due(x.years(seed, 30, what), x.years(seed ^ Edge.MIN, 30, what));
            }
        }
    }

    // ---- promise 38

    private static void toJoin() {
        Edge.says("TO JOIN; NONE: none.");
        Edge.due(NewHouses::new, NewHouses::toJoin, -1);
        Edge.due("person 0;", NewHouses::toJoin, -1);
        Edge.due(Edge.TWELVE, NewHouses::toJoin, -1);
        Edge.due(Edge.TWELVE + "keeps 1;", NewHouses::toJoin, -1);
        Edge.due(TWO + "house 0 1;", NewHouses::toJoin, -1);
        Edge.says("so that the fewest EVENINGS (0 to 100) are needed till ALL KNOWN, if fewer than without, or there is none without");
        // Two HOUSES that are JOINED are all: 0 EVENINGS.
        Edge.due(TWO, NewHouses::toJoin, 1);
        Edge.due(TWO + "keeps 1;", NewHouses::toJoin, 1);
        Edge.due(Edge.TWELVE + "house 0 1 2 3 4 5;house 6 7 8 9 10 11;keeps 1;", NewHouses::toJoin, 1);
        // Three alone live together behind 1: none is fewer but 0, which no one joining gives.
        Edge.due("person 0;person 0;person 0;", NewHouses::toJoin, -1);
        Edge.due("person 0;person 0;person 0;keeps 1;", NewHouses::toJoin, -1);
        // Alone 0 never goes. 0 to 1, when HOUSES open: 1 0|2 -> 1|0 2 -> 0|1 2, behind 100, or 101.
        String late = "person 4;person 1;person 2;keeps ranks=4 or evening<";
        Edge.due(late + "98;", NewHouses::allKnown, -1);
        Edge.due(late + "98;", NewHouses::toJoin, 1);
        Edge.due(late + "98;", x -> { x.join(0, 1); return x.allKnown(); }, 100);
        Edge.due(late + "99;", NewHouses::toJoin, -1);
        // The first ones go. 0|1|2 3 -> 3|0 1 2 -> 1 2|3 0 -> 2|0|1 3, behind 3: by joining it is as many, or more.
        String same = "person 0;person 0;person 0;person 0;house 0;house 1;house 2 3;picks 0-place;";
        Edge.due(same, NewHouses::allKnown, 3);
        Edge.due(same, x -> { x.join(0, 1); return x.allKnown(); }, 3);
        Edge.due(same, NewHouses::toJoin, -1);
        // 0|1 2|3 -> 1|0 2 3 -> 0 2|1 3 -> 0|1|2 3 -> 2|0 1 3, behind 4; 0 to 1: 1 2 0|3 -> 1 2|0 3 -> 1|0|2 3 -> 2|1 0 3, 3.
        String one = "person 0;person 0;person 0;person 0;house 0;house 1 2;house 3;";
        Edge.due(one, NewHouses::allKnown, 4);
        Edge.due(one, NewHouses::toJoin, 1);
        // Of joinings one that is sooner by 1, though it is told later: 0 to 1 for 5, 0 to 2 for 4.
        Edge.due(Edge.people(0, 0, 0, 0, 0) + "house 1 2 4;picks 0-place;", NewHouses::toJoin, 2);
        Edge.says("100 by the first and the other one; of like ones the least; none.");
        Edge.due("person 0;person 0;person 0;person 0;house 2;house 3;house 0 1;", NewHouses::toJoin, 200);
        Edge.due(Edge.FIVE, x -> { x.toJoin(); return x.count(11) + x.count(1); }, 3);
    }
}
