/** The edges that the document names of what comes, if only EVENINGS go by (promises 14 to 25, 37). */
public final class EdgesOfEveningsTest {
    private static final int[] NOT_100 = {-1, 101, 200, Edge.MIN, Edge.MAX};
    private static final String TWO = "person 0;person 0;";
    private static final String TWO_IN_ONE = "person 0;person 0;house 0 1;";
    /** Nobody goes before the 100th EVENING, the 101st. */
    private static final String ON_100 = "keeps evening<99;";
    private static final String ON_101 = "keeps evening<100;";

    public static void main(String[] args) {
        then();
        size();
        later();
        meet();
        together();
        goes();
        stay();
        falls();
        who();
        round();
        asNow();
        known();
        allKnown();
        restless();
        steadiest();
        oldest();
        strangers();
        farEvenings();
        Edge.end("the edges of evenings are as told");
    }

    // ---- promise 14

    private static void then() {
        Edge.says("THEN: the HOUSE (what 0), PLACE (1), how often one has gone (2), how many live there (3).");
        for (int what : new int[] {-1, 4, Edge.MIN, Edge.MAX}) {
            Edge.no(Edge.FIVE, x -> x.then(0, 0, what));
            Edge.no(Edge.FIVE, x -> x.then(0, 101, what));
        }
        Edge.says("IllegalArgumentException (behind that): not 0 to 100.");
        for (int e : NOT_100) {
            for (int what = 0; what <= 3; what++) {
                int w = what;
                Edge.bad(Edge.FIVE, x -> x.then(0, e, w));
            }
            Edge.no(Edge.FIVE, x -> x.then(5, e, 0));
        }
        Edge.no(NewHouses::new, x -> x.then(0, 0, 0));
        Edge.says("THEN, behind so many EVENINGS (0 to 100): the HOUSE of one, one's PLACE");
        int[] now = {0, 2, 0, 3};
        // Behind 100 it is as behind 4: 0 3|2 1 4, and 4 always goes.
        int[] far = {1, 2, 100, 3};
        for (int what = 0; what <= 3; what++) {
            int w = what;
            Edge.due(Edge.FIVE, x -> x.then(2, 0, w), now[w]);
            Edge.due(Edge.FIVE, x -> x.then(4, 100, w), far[w]);
        }
        Edge.due("person 0;" + ON_100, x -> x.then(0, 99, 2), 0);
        Edge.due("person 0;" + ON_100, x -> x.then(0, 100, 2), 1);
        Edge.due("person 0;" + ON_101, x -> x.then(0, 100, 2), 0);
        Edge.says("how often one has gone in all");
        Edge.due("person 0;", x -> { x.evenings(20); return x.then(0, 0, 2); }, 20);
        Edge.due("person 0;", x -> { x.evenings(20); return x.then(0, 100, 2); }, 120);
        Edge.due(Edge.TWELVE, x -> x.then(11, 1, 3), 12);
        Edge.due(Edge.TWELVE, x -> x.then(11, 1, 1), 11);
        Edge.due(Edge.TWELVE, x -> x.then(11, 0, 0), 11);
    }

    // ---- promise 15

    private static void size() {
        Edge.says("SIZES; NONE: there are fewer HOUSES.");
        for (int i = 0; i < 12; i++) {
            int at = i;
            Edge.due(NewHouses::new, x -> x.size(at, 0), -1);
            Edge.due(Edge.TWELVE, x -> x.size(at, 0), 1);
            Edge.due(Edge.TWELVE, x -> x.size(at, 1), at == 0 ? 12 : -1);
            Edge.due(Edge.TWELVE, x -> x.size(at, 2), at == 0 ? 11 : at == 1 ? 1 : -1);
        }
        Edge.says("that of the i-th greatest HOUSE (0 on; none)");
        int[] sizes = {3, 1, 1, -1};
        for (int i = 0; i < sizes.length; i++) {
            int at = i;
            Edge.due(Edge.FIVE, x -> x.size(at, 0), sizes[at]);
            Edge.due(Edge.FIVE, x -> x.size(at, 3), sizes[at]);
        }
        Edge.due("person 0;" + "person 0;".repeat(3) + "house 0;house 1 2 3;", x -> x.size(1, 0), 1);
        Edge.says("IllegalArgumentException: not 0 to 100, i not 0 to 11.");
        for (int e : NOT_100) Edge.bad(Edge.FIVE, x -> x.size(0, e));
        for (int i : new int[] {-1, 12, 13, Edge.MIN, Edge.MAX}) Edge.bad(Edge.FIVE, x -> x.size(i, 0));
        Edge.bad(NewHouses::new, x -> x.size(12, 101));
        Edge.due(Edge.FIVE, x -> x.size(11, 100), -1);
        Edge.due(TWO + ON_100, x -> x.size(0, 99), 1);
        Edge.due(TWO + ON_100, x -> x.size(0, 100), 2);
        Edge.due(TWO + ON_101, x -> x.size(0, 100), 1);
    }

    // ---- promise 16

    private static void later() {
        Edge.says("How many HOUSES (what 0), in the greatest (1), ALONE (2; bits), FRIENDS in one HOUSE (3), STAIRS (4; 1).");
        int[] nobody = {0, 0, 0, 0, 1};
        int[] now = {3, 3, 24, 0, 0};
        int[] far = {2, 3, 0, 2, 0};
        for (int what = 0; what <= 4; what++) {
            int w = what;
            Edge.due(NewHouses::new, x -> x.later(0, w), nobody[w]);
            Edge.due(NewHouses::new, x -> x.later(100, w), nobody[w]);
            Edge.due(Edge.FIVE, x -> x.later(0, w), now[w]);
            Edge.due(Edge.FIVE, x -> x.later(100, w), far[w]);
            for (int e : NOT_100) Edge.bad(Edge.FIVE, x -> x.later(e, w));
        }
        for (int what : new int[] {-1, 5, Edge.MIN, Edge.MAX}) {
            Edge.no(Edge.FIVE, x -> x.later(0, what));
            Edge.no(Edge.FIVE, x -> x.later(101, what));
        }
        String friends = TWO + "friends 0 1;" + ON_100;
        int[] before = {2, 1, 3, 0, 0};
        int[] behind = {1, 2, 0, 1, 0};
        for (int what = 0; what <= 4; what++) {
            int w = what;
            Edge.due(friends, x -> x.later(99, w), before[w]);
            Edge.due(friends, x -> x.later(100, w), behind[w]);
        }
        Edge.due(Edge.TWELVE, x -> x.later(0, 2), 4095);
        Edge.due("person 0;person 0;person 0;house 0 1 2;", x -> x.later(0, 4), 0);
        Edge.due("person 0;person 0;person 0;house 0 1 2;", x -> x.later(1, 4), 1);
    }

    // ---- promises 17, 18

    private static void meet() {
        Edge.says("MEET (what 0), PART (1); NONE: none, both are one.");
        for (int what = 0; what <= 1; what++) {
            int w = what;
            for (int p = 0; p < 5; p++) {
                int person = p;
                Edge.due(Edge.FIVE, x -> x.meet(person, person, w), -1);
            }
        }
        for (int what : new int[] {-1, 2, Edge.MIN, Edge.MAX}) {
            Edge.no(Edge.FIVE, x -> x.meet(0, 1, what));
            Edge.no(Edge.FIVE, x -> x.meet(0, 0, what));
        }
        Edge.says("MEET: behind how many EVENINGS (0 to 100) two live in one HOUSE first");
        Edge.due(TWO_IN_ONE, x -> x.meet(0, 1, 0), 0);
        Edge.due(TWO, x -> x.meet(0, 1, 0), 1);
        Edge.due(TWO + ON_100, x -> x.meet(0, 1, 0), 100);
        Edge.due(TWO + ON_100, x -> x.meet(1, 0, 0), 100);
        Edge.due(TWO + ON_101, x -> x.meet(0, 1, 0), -1);
        Edge.due(TWO + "keeps 1;", x -> x.meet(0, 1, 0), -1);
        Edge.says("PART: behind how many they first don't; none.");
        Edge.due(TWO, x -> x.meet(0, 1, 1), 0);
        Edge.due(TWO_IN_ONE, x -> x.meet(0, 1, 1), 1);
        Edge.due(TWO_IN_ONE + ON_100, x -> x.meet(0, 1, 1), 100);
        Edge.due(TWO_IN_ONE + ON_101, x -> x.meet(0, 1, 1), -1);
        Edge.due(TWO_IN_ONE + "keeps 1;", x -> x.meet(0, 1, 1), -1);
    }

    private static void together() {
        Edge.says("TOGETHER: at the end of how many of so many EVENINGS (1 to 100) two do.");
        Edge.due(TWO, x -> x.together(0, 1, 1), 1);
        Edge.due(TWO_IN_ONE, x -> x.together(0, 1, 1), 0);
        Edge.due(TWO, x -> x.together(0, 1, 100), 50);
        Edge.due(TWO_IN_ONE, x -> x.together(1, 0, 99), 49);
        Edge.due(TWO_IN_ONE + "keeps 1;", x -> x.together(0, 1, 100), 100);
        Edge.due(TWO + ON_100, x -> x.together(0, 1, 99), 0);
        Edge.due(TWO + ON_100, x -> x.together(0, 1, 100), 1);
        Edge.due(TWO, x -> x.together(1, 1, 100), 100);
        Edge.says("IllegalArgumentException (behind NoSuchElementException): not 1 to 100.");
        for (int e : new int[] {0, -1, 101, Edge.MIN, Edge.MAX}) {
            Edge.bad(TWO, x -> x.together(0, 1, e));
            Edge.bad(TWO, x -> x.together(0, 0, e));
            Edge.no(TWO, x -> x.together(2, 0, e));
            Edge.no(TWO, x -> x.together(0, 2, e));
        }
    }

    // ---- promises 19, 20

    private static void goes() {
        Edge.says("GOES (what 0; NONE), STAY (1). NoSuchElementException: also another what.");
        for (int what : new int[] {-1, 2, Edge.MIN, Edge.MAX}) Edge.no(Edge.FIVE, x -> x.goes(0, what));
        Edge.says("GOES: behind how many EVENINGS (1 to 100) one has gone first; none.");
        Edge.due("person 0;", x -> x.goes(0, 0), 1);
        Edge.due("person 0;", x -> { x.evenings(5); return x.goes(0, 0); }, 1);
        Edge.due("person 0;" + ON_100, x -> x.goes(0, 0), 100);
        Edge.due("person 0;" + ON_101, x -> x.goes(0, 0), -1);
        Edge.due("person 0;" + ON_101, x -> { x.evenings(1); return x.goes(0, 0); }, 100);
        Edge.due("person 0;keeps 1;", x -> x.goes(0, 0), -1);
        Edge.due(TWO_IN_ONE, x -> x.goes(1, 0), 1);
        Edge.due(TWO_IN_ONE, x -> x.goes(0, 0), 2);
    }

    private static void stay() {
        Edge.says("STAY: the most of the next 100 EVENINGS one behind the other in which one doesn't go (100: one never goes).");
        Edge.due("person 0;", x -> x.goes(0, 1), 0);
        Edge.due("person 0;keeps 1;", x -> x.goes(0, 1), 100);
        Edge.due("person 0;" + ON_101, x -> x.goes(0, 1), 100);
        Edge.due("person 0;" + ON_100, x -> x.goes(0, 1), 99);
        Edge.due("person 0;keeps evening;", x -> x.goes(0, 1), 99);
        // One goes on the 11th and the 81st: stays 10, 69, 19; on the 21st alone: 20, 79; on the 80th alone: 79, 20.
        Edge.due("person 0;keeps not (evening=10 or evening=80);", x -> x.goes(0, 1), 69);
        Edge.due("person 0;keeps not evening=20;", x -> x.goes(0, 1), 79);
        Edge.due("person 0;keeps not evening=79;", x -> x.goes(0, 1), 79);
    }

    private static void falls() {
        Edge.says("FALLS: behind how many EVENINGS (1 to 100) a HOUSE of now is no more (empty on that one); none.");
        Edge.due("person 0;", x -> x.falls(0), 1);
        Edge.due(TWO_IN_ONE, x -> x.falls(0), 2);
        Edge.due(Edge.TWELVE + "house 0 1 2 3 4 5 6 7 8 9 10 11;", x -> x.falls(0), 12);
        Edge.due(Edge.FIVE, x -> x.falls(0), 3);
        Edge.due("person 0;" + ON_100, x -> x.falls(0), 100);
        Edge.due("person 0;" + ON_101, x -> x.falls(0), -1);
        Edge.due("person 0;keeps 1;", x -> x.falls(0), -1);
        Edge.due(TWO_IN_ONE + "keeps size=1;", x -> x.falls(0), -1);
        // A HOUSE of now keeps its name when others fall, and its number changes.
        Edge.due("person 0;person 0;person 0;house 0;house 1 2;", x -> x.falls(1), 2);
        // 0|1|2 3: both first ones fall, and what is number 0, then 1, is another one.
        Edge.due("person 0;person 0;person 0;person 0;house 0;house 1;house 2 3;", x -> x.falls(1), 1);
        Edge.due("person 0;person 0;person 0;person 0;house 0;house 1;house 2 3;", x -> x.falls(2), 2);
    }

    // ---- promise 21

    private static void who() {
        Edge.says("WHO; NONE: there is no such HOUSE, PLACE then.");
        Edge.due(NewHouses::new, x -> x.who(0, 0, 0), -1);
        Edge.due(NewHouses::new, x -> x.who(11, 11, 100), -1);
        Edge.due(Edge.TWELVE, x -> x.who(11, 0, 0), 11);
        Edge.due(Edge.TWELVE, x -> x.who(11, 1, 0), -1);
        Edge.due(Edge.TWELVE, x -> x.who(0, 1, 0), -1);
        Edge.due(Edge.TWELVE, x -> x.who(0, 11, 1), 11);
        Edge.due(Edge.TWELVE, x -> x.who(1, 0, 1), -1);
        Edge.due(Edge.FIVE, x -> x.who(2, 0, 0), 4);
        Edge.due(Edge.FIVE, x -> x.who(3, 0, 0), -1);
        Edge.due(Edge.FIVE, x -> x.who(0, 2, 0), 2);
        Edge.due(Edge.FIVE, x -> x.who(0, 3, 0), -1);
        Edge.due(TWO + ON_100, x -> x.who(0, 1, 99), -1);
        Edge.due(TWO + ON_100, x -> x.who(0, 1, 100), 1);
        Edge.says("IllegalArgumentException: house, place not 0 to 11, evenings not 0 to 100.");
        for (int i : new int[] {-1, 12, Edge.MIN, Edge.MAX}) {
            Edge.bad(Edge.FIVE, x -> x.who(i, 0, 0));
            Edge.bad(Edge.FIVE, x -> x.who(0, i, 0));
            Edge.bad(NewHouses::new, x -> x.who(i, i, 0));
        }
        for (int e : NOT_100) Edge.bad(Edge.FIVE, x -> x.who(0, 0, e));
    }

    // ---- promises 22, 23

    private static void round(String text, int begin, int length) {
        Edge.due(text, x -> x.round(0), begin);
        Edge.due(text, x -> x.round(1), length);
    }

    private static void round() {
        Edge.says("ROUND: behind how many (what 0), how many (1); NONE: none. NoSuchElementException: another what.");
        for (int what : new int[] {-1, 2, Edge.MIN, Edge.MAX}) Edge.no(Edge.FIVE, x -> x.round(what));
        Edge.due(NewHouses::new, x -> x.round(0), 0);
        Edge.due(NewHouses::new, x -> x.round(1), 1);
        Edge.says("behind how many EVENINGS (0 to 200) they first are such as come again behind more");
        round("person 0;", 0, 1);
        round("person 0;keeps 1;", 0, 1);
        round(TWO, 0, 2);
        // 4 ones: 4, 3 1, 2 2, 2 1 1, 3 1.
        round("person 0;".repeat(4), 2, 3);
        // 2 on EVENING 0, 1 1 for long, 2 again behind the last of 200; then only behind 201.
        round(TWO_IN_ONE + "keeps not (evening=0 or evening=199);", 0, 200);
        round(TWO_IN_ONE + "keeps not (evening=0 or evening=200);", 1, 1);
        Edge.says("(of which HOUSES there are, in whatever order)");
        // 0 1|2 -> 0|1 2: 2 1 and 1 2 are the same SIZES.
        round("person 0;person 0;person 0;house 0 1;", 0, 1);
        Edge.says("how many EVENINGS it is then until they first come again; none for both");
        // 2 is there now, behind 10, behind 50: the first time counts.
        round(TWO_IN_ONE + "keeps not (evening=0 or evening=9 or evening=10 or evening=49);", 0, 10);
    }

    private static void asNow() {
        Edge.says("AS NOW: behind how many EVENINGS (1 to 200) each lives with just those with whom one lives now");
        Edge.due("person 0;", x -> x.asNow(), 1);
        Edge.due(TWO_IN_ONE + "keeps 1;", x -> x.asNow(), 1);
        Edge.due(TWO, x -> x.asNow(), 2);
        Edge.due(TWO_IN_ONE + "keeps not (evening=0 or evening=199);", x -> x.asNow(), 200);
        Edge.due(TWO_IN_ONE + "keeps not (evening=0 or evening=200);", x -> x.asNow(), -1);
        Edge.says("wherever HOUSES stand, first (1 without PEOPLE); none.");
        Edge.due(NewHouses::new, x -> x.asNow(), 1);
        // 0|1 2 -> 1|0 2 -> 0|1 2
        Edge.due("person 0;person 0;person 0;house 0;house 1 2;", x -> x.asNow(), 2);
        // 1|0 -> 0|1: 0 stays in, 1 goes alone, and is as now, though HOUSES stand otherwise.
        Edge.due("person 0;person 1;house 1;house 0;keeps ranks=0;", x -> x.asNow(), 1);
        Edge.due(Edge.FIVE, x -> x.asNow(), -1);
    }

    // ---- promises 24, 25

    private static void known() {
        Edge.says("KNOWN: with whom one lives now, or at the end of any of so many EVENINGS (0 to 100; bits).");
        Edge.due("person 0;", x -> x.known(0, 100), 0);
        Edge.due(TWO, x -> x.known(0, 0), 0);
        Edge.due(TWO, x -> x.known(0, 1), 2);
        Edge.due(TWO_IN_ONE, x -> x.known(1, 0), 1);
        Edge.due(TWO_IN_ONE, x -> x.known(1, 1), 1);
        Edge.due(TWO + ON_100, x -> x.known(0, 99), 0);
        Edge.due(TWO + ON_100, x -> x.known(0, 100), 2);
        Edge.due(TWO + ON_101, x -> x.known(0, 100), 0);
        Edge.due(Edge.TWELVE, x -> x.known(11, 1), 2047);
        Edge.says("KNOWN, as bits (not oneself). IllegalArgumentException (behind NoSuchElementException): not 0 to 100.");
        for (int e : NOT_100) {
            Edge.bad(Edge.FIVE, x -> x.known(0, e));
            Edge.no(Edge.FIVE, x -> x.known(5, e));
        }
        for (int p = 0; p < 5; p++) {
            int person = p;
            Edge.due(Edge.FIVE, x -> x.known(person, 100) >> person & 1, 0);
        }
    }

    private static void allKnown() {
        Edge.says("ALL KNOWN: behind how many EVENINGS (0 to 100) each has lived with each other one");
        Edge.due(TWO_IN_ONE, NewHouses::allKnown, 0);
        Edge.due(TWO, NewHouses::allKnown, 1);
        Edge.due(Edge.TWELVE, NewHouses::allKnown, 1);
        Edge.due(TWO + ON_100, NewHouses::allKnown, 100);
        Edge.due(TWO + ON_101, NewHouses::allKnown, -1);
        Edge.due(Edge.FIVE, NewHouses::allKnown, -1);
        Edge.says("now or at the end of one (0 of one PERSON, of none); none.");
        Edge.due("person 0;", NewHouses::allKnown, 0);
        Edge.due(NewHouses::new, NewHouses::allKnown, 0);
        // 2 0 1|3 -> 2 0|1 3 -> 2|1|0 3 -> 0|2 1 3: now, and behind 1 to 3, there are all six couples.
        Edge.due("person 0;person 0;person 0;person 0;house 2 0 1;", NewHouses::allKnown, 3);
    }

    // ---- promise 37

    private static void restless() {
        Edge.says("RESTLESS (what 0; NONE), STEADIEST (1; NONE), OLDEST (2; NONE), STRANGERS (3).");
        for (int what : new int[] {-1, 4, Edge.MIN, Edge.MAX}) {
            Edge.no(Edge.FIVE, x -> x.ahead(0, what));
            Edge.no(Edge.FIVE, x -> x.ahead(101, what));
        }
        int[] nobody = {-1, -1, -1, 0};
        for (int what = 0; what <= 3; what++) {
            int w = what;
            for (int e : NOT_100) Edge.bad(Edge.FIVE, x -> x.ahead(e, w));
            Edge.due(NewHouses::new, x -> x.ahead(0, w), nobody[w]);
            Edge.due(NewHouses::new, x -> x.ahead(100, w), nobody[w]);
        }
        Edge.says("RESTLESS in so many EVENINGS (0 to 100): who goes most often in them (of like ones the least)");
        Edge.due(TWO, x -> x.ahead(1, 0), 0);
        Edge.due(TWO_IN_ONE, x -> x.ahead(1, 0), 1);
        Edge.due(Edge.TWELVE, x -> x.ahead(1, 0), 0);
        Edge.due(Edge.TWELVE, x -> x.ahead(2, 0), 11);
        Edge.due(Edge.FIVE, x -> x.ahead(100, 0), 4);
        Edge.due("person 0;" + ON_100, x -> x.ahead(100, 0), 0);
        // 1 has gone 5 times before, but doesn't in these.
        Edge.due("person 0;person 9;keeps (ranks=0)*(evening<5)+(ranks=9)*(not evening<5);",
            x -> { x.evenings(5); return x.ahead(1, 0); }, 0);
        Edge.says("none, if nobody goes");
        Edge.due(Edge.FIVE, x -> x.ahead(0, 0), -1);
        Edge.due("person 0;" + ON_100, x -> x.ahead(99, 0), -1);
        Edge.due("person 0;keeps 1;", x -> x.ahead(100, 0), -1);
        Edge.due("person 0;keeps evening=20;", x -> { x.evenings(20); return x.ahead(1, 0); }, -1);
    }

    private static void steadiest() {
        Edge.says("STEADIEST then: who has lived longest in one's HOUSE (of like ones the least); none without PEOPLE.");
        Edge.due(NewHouses::new, x -> x.ahead(50, 1), -1);
        Edge.due(Edge.FIVE, x -> x.ahead(0, 1), 0);
        Edge.due(Edge.TWELVE, x -> x.ahead(1, 1), 0);
        Edge.due(TWO_IN_ONE, x -> x.ahead(1, 1), 0);
        Edge.due("person 0;person 0;house 1 0;", x -> x.ahead(1, 1), 1);
        Edge.due("person 0;person 1;keeps ranks=1;", x -> x.ahead(100, 1), 1);
        // Who moved lives there since then.
        Edge.due(TWO_IN_ONE + "keeps 1;", x -> { x.evenings(3); x.found(0); return x.ahead(0, 1); }, 1);
        Edge.due(TWO_IN_ONE + "keeps 1;", x -> { x.evenings(3); x.found(1); x.move(0, 1); return x.ahead(100, 1); }, 0);
    }

    private static void oldest() {
        Edge.says("OLDEST then: how OLD the HOUSE is that is OLDEST; none.");
        Edge.due(NewHouses::new, x -> x.ahead(50, 2), -1);
        Edge.due(Edge.FIVE, x -> x.ahead(0, 2), 0);
        Edge.due("person 0;", x -> x.ahead(100, 2), 0);
        Edge.due("person 0;keeps 1;", x -> x.ahead(100, 2), 100);
        Edge.due("person 0;keeps 1;", x -> { x.evenings(20); return x.ahead(100, 2); }, 120);
        Edge.due("person 0;person 0;house 0 1;", x -> x.ahead(1, 2), 1);
        Edge.due("person 0;person 0;house 0 1;", x -> x.ahead(2, 2), 0);
        Edge.due("person 0;" + ON_100, x -> x.ahead(99, 2), 99);
        Edge.due("person 0;" + ON_100, x -> x.ahead(100, 2), 0);
        // The OLDEST one is JOINED: it counts no more.
        Edge.due("person 0;person 0;person 0;house 0 1;house 2;keeps house=0;",
            x -> { x.evenings(5); x.join(0, 1); return x.ahead(0, 2); }, 0);
    }

    private static void strangers() {
        Edge.says("STRANGERS: how many couples of PEOPLE don't live together now, nor at the end of any of so many EVENINGS (0 to 100).");
        Edge.due("person 0;", x -> x.ahead(0, 3), 0);
        Edge.due(TWO, x -> x.ahead(0, 3), 1);
        Edge.due(TWO, x -> x.ahead(1, 3), 0);
        Edge.due(TWO_IN_ONE, x -> x.ahead(0, 3), 0);
        Edge.due(TWO_IN_ONE, x -> x.ahead(1, 3), 0);
        Edge.due(Edge.TWELVE, x -> x.ahead(0, 3), 66);
        Edge.due(Edge.TWELVE + "keeps 1;", x -> x.ahead(100, 3), 66);
        Edge.due(TWO + ON_100, x -> x.ahead(99, 3), 1);
        Edge.due(TWO + ON_100, x -> x.ahead(100, 3), 0);
        Edge.due(TWO + ON_101, x -> x.ahead(100, 3), 1);
    }

    /** What is told of later is the same, whether it was asked for ahead of the change, too, or not. */
    private static void anew(String text, Edge.Call change) {
        String rules = text.equals(Edge.FIVE) ? "" : "picks rank;keeps evening=7;";
        NewHouses asked = Edge.told(text + rules);
        asked.round(0);
        change.of(asked);
        NewHouses fresh = Edge.told(text + rules);
        change.of(fresh);
        for (int e = 0; e <= 4; e++) {
            for (int p = 0; p < fresh.count(0); p++) {
                for (int what = 0; what <= 3; what++) Edge.due(asked.then(p, e, what), fresh.then(p, e, what));
            }
        }
    }

    private static void farEvenings() {
        Edge.says("(If only EVENINGS go by, from now on:)");
        // What has been told of later holds no more when anything has changed.
        anew("person 0;person 1;house 0 1;", x -> x.rank(0, 5));
        anew("person 0;person 0;person 0;", x -> x.move(0, 1));
        anew("person 0;person 0;house 0 1;", x -> x.found(0));
        anew("person 0;person 0;person 0;", x -> x.join(0, 1));
        anew(Edge.FIVE, x -> x.evenings(1));
        anew(Edge.FIVE, x -> Edge.tell(x, TWO));
        NewHouses undone = Edge.told(TWO);
        undone.image();
        undone.evenings(1);
        Edge.due(undone.then(0, 1, 3), 1);
        undone.undo();
        Edge.due(undone.then(0, 1, 3), 2);
        undone.evenings(1);
        Edge.due(undone.then(0, 1, 3), 1);
        undone.restore();
        Edge.due(undone.then(0, 1, 3), 2);
        // Nor does one answer stay in another one.
        NewHouses known = Edge.told(TWO);
        Edge.due(known.known(0, 100), 2);
        Edge.due(known.known(0, 0), 0);
        Edge.due(known.ahead(100, 3), 0);
        Edge.due(known.ahead(0, 3), 1);
        Edge.due(known.known(0, 100), 2);
        Edge.due(known.allKnown(), 1);
        NewHouses x = Edge.told("person 0;person 0;keeps evening<9999;");
        for (int i = 0; i < 498; i++) x.evenings(20);
        x.evenings(19);
        Edge.due(x.evenings(20), 9999);
        // What is told of later goes beyond 9999.
        Edge.due(x.meet(0, 1, 0), 1);
        Edge.due(x.goes(0, 0), 1);
    }
}
