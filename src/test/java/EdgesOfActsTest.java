import java.util.List;

/** The edges that the document names of what is so now, of EVENINGS and ACTS, of the image (promises 5 to 13, 39, 40). */
public final class EdgesOfActsTest {
    private static final int[] NOBODY = {-1, 5, 12, Edge.MIN, Edge.MAX};
    private static final int[] NO_HOUSE = {-1, 3, 12, Edge.MIN, Edge.MAX};

    public static void main(String[] args) {
        peopleAndHousesThatAreNot();
        counts();
        stairsAndPasts();
        friendsAndTold();
        persons();
        houses();
        eveningsGoBy();
        whoGoes();
        eveningsRefused();
        moves();
        founds();
        joins();
        ranks();
        actsKept();
        undos();
        images();
        restores();
        status();
        Edge.end("the edges of acts are as told");
    }

    /** Rows of PEOPLE by HOUSES, as "2 0|1". */
    private static void rows(NewHouses x, String rows) {
        StringBuilder s = new StringBuilder();
        for (int h = 0; h < x.count(1); h++) {
            for (int i = 0; i < x.house(h, 0); i++) s.append(i > 0 ? " " : h > 0 ? "|" : "").append(x.who(h, i, 0));
        }
        Edge.holds(s.toString().equals(rows));
        for (int p = 0; p < x.count(0); p++) Edge.due(x.who(x.person(p, 0), x.person(p, 1), 0), p);
    }

    private static void rows(String text, String rows) { rows(Edge.told(text), rows); }

    private static void peopleAndHousesThatAreNot() {
        Edge.says("NoSuchElementException: no such PERSON (as everywhere), what.");
        for (int p : NOBODY) {
            Edge.no(Edge.FIVE, x -> x.person(p, 0));
            Edge.no(Edge.FIVE, x -> x.move(p, 0));
            Edge.no(Edge.FIVE, x -> x.found(p));
            Edge.no(Edge.FIVE, x -> x.rank(p, 0));
            Edge.no(Edge.FIVE, x -> x.then(p, 0, 0));
            Edge.no(Edge.FIVE, x -> x.meet(p, 0, 0));
            Edge.no(Edge.FIVE, x -> x.meet(0, p, 0));
            Edge.no(Edge.FIVE, x -> x.meet(p, p, 0));
            Edge.no(Edge.FIVE, x -> x.together(p, 0, 1));
            Edge.no(Edge.FIVE, x -> x.together(0, p, 1));
            Edge.no(Edge.FIVE, x -> x.goes(p, 0));
            Edge.no(Edge.FIVE, x -> x.known(p, 0));
            Edge.no(Edge.FIVE, x -> x.toMeet(p, 0));
            Edge.no(Edge.FIVE, x -> x.toMeet(0, p));
            Edge.no(Edge.FIVE, x -> x.toMeet(p, p));
            Edge.no(Edge.FIVE, x -> x.chain(p, 0));
            Edge.no(Edge.FIVE, x -> x.chain(0, p));
            Edge.no(Edge.FIVE, x -> x.chain(p, p));
            Edge.no(Edge.FIVE, x -> x.see(p, 0, 1));
            Edge.no(Edge.FIVE, x -> x.storms(p, 0, 1, 0));
            Edge.no(Edge.FIVE, x -> x.storms(0, p, 1, 0));
            Edge.no(Edge.FIVE, x -> x.game(p, 0, 0));
            Edge.no(Edge.FIVE, x -> x.game(0, p, 0));
            Edge.no(Edge.FIVE, x -> x.game(p, p, 0));
        }
        Edge.no(NewHouses::new, x -> x.goes(0, 0));
        Edge.no(NewHouses::new, x -> x.see(0, 0, 1));
        Edge.no(NewHouses::new, x -> x.rank(0, 1));
        Edge.due(Edge.FIVE, x -> x.person(4, 2), 4);
        Edge.due(Edge.TWELVE, x -> x.found(11), -1);
        Edge.no(Edge.TWELVE, x -> x.found(12));
        Edge.says("NoSuchElementException: no such HOUSE (as everywhere), what.");
        for (int h : NO_HOUSE) {
            Edge.no(Edge.FIVE, x -> x.house(h, 0));
            Edge.no(Edge.FIVE, x -> x.move(0, h));
            Edge.no(Edge.FIVE, x -> x.join(h, 0));
            Edge.no(Edge.FIVE, x -> x.join(0, h));
            Edge.no(Edge.FIVE, x -> x.join(h, h));
            Edge.no(Edge.FIVE, x -> x.falls(h));
        }
        Edge.no(NewHouses::new, x -> x.falls(0));
        Edge.no(NewHouses::new, x -> x.join(0, 0));
        Edge.due(Edge.FIVE, x -> x.house(2, 2), 4);
        Edge.due(Edge.TWELVE, x -> x.house(11, 2), 11);
        Edge.no(Edge.TWELVE, x -> x.house(12, 2));
    }

    // ---- promise 5

    private static void counts() {
        Edge.says("NoSuchElementException: another what.");
        for (int what : new int[] {-1, 17, Edge.MIN, Edge.MAX}) {
            Edge.no(Edge.FIVE, x -> x.count(what));
            Edge.no(NewHouses::new, x -> x.count(what));
        }
        Edge.says("3 how many live in the greatest (0: nobody)");
        Edge.due(NewHouses::new, x -> x.count(3), 0);
        Edge.due("person 0;", x -> x.count(3), 1);
        Edge.due(Edge.TWELVE + "house 0 1 2 3 4 5 6 7 8 9 10 11;", x -> x.count(3), 12);
        Edge.due("person 0;person 0;person 0;house 2;house 1 0;", x -> x.count(3), 2);
        Edge.says("4 who lives ALONE (bits)");
        Edge.due(Edge.TWELVE, x -> x.count(4), 4095);
        Edge.due("person 0;person 0;house 0 1;", x -> x.count(4), 0);
        Edge.due("person 0;person 0;person 0;house 0 2;", x -> x.count(4), 2);
        Edge.says("11 ACTS that are kept, 12 SEEN, 13 bytes of the tape, 14 to 16 STATUS 0 to 2");
        NewHouses x = Edge.told(Edge.FIVE);
        x.evenings(20);
        x.rank(0, 0);
        Edge.due(x.count(11), 2);
        x.see(0, 0, 1);
        Edge.due(x.count(12), 1);
        Edge.feed(x, "a".repeat(41));
        Edge.due(x.count(13), 60);
    }

    private static void stairsAndPasts() {
        Edge.says("STAIRS (1, also of nobody)");
        Edge.due(NewHouses::new, x -> x.count(5), 1);
        Edge.says("whether SIZES are 1, 2, 3 .. to the greatest, each once (1)");
        Edge.due("person 0;", x -> x.count(5), 1);
        Edge.due("person 0;person 0;", x -> x.count(5), 0);
        Edge.due("person 0;person 0;house 0 1;", x -> x.count(5), 0);
        Edge.due("person 0;person 0;person 0;house 0 1;", x -> x.count(5), 1);
        Edge.due("person 0;person 0;person 0;person 0;house 0 1;", x -> x.count(5), 0);
        Edge.due("person 0;person 0;person 0;person 0;house 0 1 2;", x -> x.count(5), 0);
        Edge.due(Edge.people(0, 0, 0, 0, 0) + "house 0 1;house 2 3;", x -> x.count(5), 0);
        Edge.due(Edge.people(0, 0, 0, 0, 0) + "house 0 1;house 2 3 4;", x -> x.count(5), 0);
        Edge.due(Edge.people(0, 0, 0, 0, 0, 0, 0, 0, 0, 0) + "house 0 1 2;house 3 4;house 5 6 7 8;", x -> x.count(5), 1);
        Edge.due(Edge.TWELVE + "house 0 1 2;house 3 4;house 5 6 7 8;", x -> x.count(5), 0);
        Edge.says("from which, if none stayed in, SIZES of now would come on one EVENING: by SIZES alone (1 without PEOPLE)");
        Edge.due(NewHouses::new, x -> x.count(6), 1);
        Edge.due("person 0;", x -> x.count(6), 1);
        Edge.due("person 0;keeps 1;", x -> x.count(6), 1);
        Edge.due("person 0;person 0;", x -> x.count(6), 1);
        Edge.due("person 0;person 0;house 0 1;", x -> x.count(6), 1);
        Edge.due(Edge.TWELVE + "house 0 1 2 3 4 5 6 7 8 9 10 11;", x -> x.count(6), 1);
        // 3 2 1 from 4 2 (with the 2 new) and 3 2 1 (with the 3 new).
        Edge.due(Edge.people(0, 0, 0, 0, 0, 0) + "house 0 1 2;house 3 4;", x -> x.count(6), 2);
        Edge.due(Edge.people(0, 0, 0, 0, 0, 0) + "house 0 1 2;house 3 4;keeps 1;", x -> x.count(6), 2);
        // Two HOUSES of one size tell one past: 2 2 from 3 1.
        Edge.due("person 0;person 0;person 0;person 0;house 0 1;house 2 3;", x -> x.count(6), 1);
        Edge.says("GARDEN: there are none (1)");
        Edge.due(NewHouses::new, x -> x.count(7), 0);
        Edge.due("person 0;person 0;", x -> x.count(7), 0);
        Edge.due("person 0;person 0;person 0;", x -> x.count(6), 0);
        Edge.due("person 0;person 0;person 0;", x -> x.count(7), 1);
        Edge.due(Edge.TWELVE, x -> x.count(7), 1);
    }

    private static void friendsAndTold() {
        Edge.says("8 couples of FRIENDS, 9 those in one HOUSE");
        Edge.due("person 0;person 0;house 0 1;", x -> x.count(9), 0);
        Edge.due("person 0;person 0;friends 0 1;", x -> x.count(9), 0);
        Edge.due("person 0;person 0;house 0 1;friends 0 1;", x -> x.count(9), 1);
        Edge.says("TOLD: the fewest PEOPLE of whom each couple of FRIENDS has one: of as few the least as bits.");
        Edge.due(NewHouses::new, x -> x.count(10), 0);
        Edge.due(Edge.TWELVE, x -> x.count(10), 0);
        Edge.due("person 0;person 0;friends 1 0;", x -> x.count(10), 1);
        Edge.due("person 0;person 0;person 0;friends 1 0;friends 1 2;", x -> x.count(10), 2);
        Edge.due("person 0;person 0;person 0;friends 1 0;friends 1 2;friends 2 0;", x -> x.count(10), 3);
        StringBuilder all = new StringBuilder(Edge.TWELVE);
        for (int i = 0; i < 11; i++) all.append("friends 11 ").append(i).append(';');
        Edge.due(all.toString(), x -> x.count(10), 2048);
        Edge.due(all + "friends 10 9;", x -> x.count(10), 2048 + 512);
        StringBuilder couples = new StringBuilder(Edge.TWELVE);
        for (int i = 0; i < 12; i += 2) couples.append("friends ").append(i + 1).append(' ').append(i).append(';');
        Edge.due(couples.toString(), x -> x.count(10), 0x555);
    }

    // ---- promises 6, 7

    private static void persons() {
        Edge.says("Of a PERSON: 0 the HOUSE, 1 the PLACE, 2 RANK, 3 how often one has gone");
        for (int what : new int[] {-1, 9, Edge.MIN, Edge.MAX}) Edge.no(Edge.FIVE, x -> x.person(0, what));
        Edge.no(Edge.FIVE, x -> x.person(5, 9));
        Edge.says("5 with whom one lives (bits), 6 FRIENDS (bits)");
        Edge.due("person 0;", x -> x.person(0, 5), 0);
        Edge.due(Edge.TWELVE + "house 0 1 2 3 4 5 6 7 8 9 10 11;", x -> x.person(11, 5), 2047);
        Edge.due("person 0;", x -> x.person(0, 6), 0);
        Edge.due("person 0;person 0;person 0;friends 2 1;", x -> x.person(1, 6), 4);
        Edge.due("person 0;person 0;person 0;friends 2 1;", x -> x.person(2, 6), 2);
        Edge.says("7 whether one goes on the next EVENING (1), 8 with whom one is of PARTNERS (NONE)");
        Edge.due("person 0;", x -> x.person(0, 7), 1);
        Edge.due("person 0;keeps 1;", x -> x.person(0, 7), 0);
        Edge.due("person 0;person 0;house 0 1;", x -> x.person(0, 7), 0);
        Edge.due("person 0;", x -> x.person(0, 8), -1);
        Edge.due("person 0;person 0;house 0 1;", x -> x.person(0, 8), 1);
    }

    private static void houses() {
        Edge.says("Of a HOUSE: 0 how many live there, 1 who (bits), 2 the first, 3 the last one, 4 RANKS of all");
        for (int what : new int[] {-1, 7, Edge.MIN, Edge.MAX}) Edge.no(Edge.FIVE, x -> x.house(0, what));
        Edge.no(Edge.FIVE, x -> x.house(3, 7));
        Edge.due("person 9;", x -> x.house(0, 2), 0);
        Edge.due("person 9;", x -> x.house(0, 3), 0);
        String all = Edge.people(9, 9, 9, 9, 9, 9, 9, 9, 9, 9, 9, 9) + "house 5 1 2 3 4 0 6 7 8 11 10 9;";
        int[] answers = {12, 4095, 5, 9, 108, 9, 0};
        for (int what = 0; what < answers.length; what++) {
            int w = what;
            Edge.due(all, x -> x.house(0, w), answers[what]);
        }
        Edge.says("5 who goes on the next EVENING (NONE: it stays in)");
        Edge.due("person 0;keeps 1;", x -> x.house(0, 5), -1);
        Edge.due("person 0;person 0;keeps house;", x -> x.house(1, 5), -1);
        Edge.due("person 0;person 0;keeps house;", x -> x.house(0, 5), 0);
    }

    // ---- EVENINGS, promise 8

    private static void eveningsGoBy() {
        Edge.says("those behind them come up by a PLACE; HOUSES that are empty fall, those behind them come up");
        NewHouses x = Edge.told("person 0;person 9;person 0;person 0;house 0 1 2;picks rank;");
        x.evenings(1);
        rows(x, "0 2|1 3");
        NewHouses first = Edge.told("person 0;person 9;house 1 0;picks rank;");
        first.evenings(1);
        rows(first, "0|1");
        NewHouses empty = Edge.told("person 0;person 0;person 0;house 0;house 1 2;");
        empty.evenings(1);
        rows(empty, "1|0 2");
        Edge.due(empty.house(0, 6), 1);
        Edge.due(empty.house(1, 6), 0);
        NewHouses twelve = Edge.told(Edge.TWELVE);
        twelve.evenings(1);
        rows(twelve, "0 1 2 3 4 5 6 7 8 9 10 11");
        NewHouses eleven = Edge.told(Edge.TWELVE + "house 11 0;");
        eleven.evenings(1);
        rows(eleven, "11|0 1 2 3 4 5 6 7 8 9 10");
        Edge.says("If anybody has gone, they are a new HOUSE, behind all, in the order of HOUSES out of which they went.");
        NewHouses nobody = Edge.told(Edge.FIVE + "keeps 1;");
        nobody.evenings(20);
        rows(nobody, "0 1 2|3|4");
        Edge.due(nobody.count(2), 20);
        NewHouses order = Edge.told("person 0;person 0;person 0;house 2;house 0;house 1;");
        order.evenings(1);
        rows(order, "2 0 1");
        NewHouses one = Edge.told("person 0;");
        one.evenings(20);
        rows(one, "0");
        Edge.due(one.person(0, 3), 20);
        Edge.due(one.house(0, 6), 0);
        NewHouses some = Edge.told("person 0;person 0;person 0;person 0;house 0 1;house 2 3;keeps house=0;");
        some.evenings(1);
        rows(some, "0 1|2|3");
        Edge.says("The EVENING is one more then.");
        Edge.due(NewHouses::new, n -> n.evenings(1), 1);
        Edge.due(Edge.FIVE, n -> n.evenings(1), 1);
    }

    private static void whoGoes() {
        Edge.says("of like ones the one farther behind; without it the last one");
        String four = "person 3;person 3;person 1;person 3;house 3 0 1 2;";
        Edge.due(four + "picks rank;", x -> x.house(0, 5), 1);
        Edge.due(four + "picks 0;", x -> x.house(0, 5), 2);
        Edge.due(four, x -> x.house(0, 5), 2);
        Edge.due(four + "picks 0-rank;", x -> x.house(0, 5), 2);
        Edge.due(four + "picks rank*rank*8192*8192;", x -> x.house(0, 5), 1);
        // The least int is still picked, if there is no greater one.
        Edge.due("person 0;picks 8192*8192*32;", x -> x.house(0, 5), 0);
        Edge.due("person 0;person 0;house 1 0;picks 8192*8192*32;", x -> x.house(0, 5), 0);
        Edge.due("person 0;person 0;house 1 0;picks 8192*8192*32+(place=0);", x -> x.house(0, 5), 1);
        // Of the greatest int and the least one the greatest: they are not compared by their difference.
        Edge.due("person 0;person 1;house 1 0;picks 8192*8192*32-rank;", x -> x.house(0, 5), 1);
        Edge.says("both asked by what is so before anybody goes");
        // By what were so while they go, HOUSE 1 would be 0 when that falls, and size 1 one less.
        NewHouses x = Edge.told("person 0;person 0;person 0;house 0;house 1 2;keeps house=0 and size=2;");
        x.evenings(1);
        rows(x, "1|0 2");
        NewHouses place = Edge.told("person 0;person 0;person 0;person 0;house 0 1;house 2 3;picks place=size-2;");
        place.evenings(1);
        rows(place, "1|3|0 2");
    }

    private static void eveningsRefused() {
        Edge.says("NONE (STATUS 1): not 1 to 20, it would be above 9999.");
        for (int many : new int[] {0, -1, 21, 9999, Edge.MIN, Edge.MAX}) {
            Edge.refused(Edge.FIVE, 1, x -> x.evenings(many));
            Edge.refused(NewHouses::new, 1, x -> x.evenings(many));
        }
        Edge.due(Edge.FIVE, x -> x.evenings(20), 20);
        Edge.due(Edge.FIVE, x -> { x.evenings(20); return x.count(11); }, 1);
        Edge.Made late = () -> {
            NewHouses x = Edge.told("person 0;");
            for (int i = 0; i < 498; i++) x.evenings(20);
            x.evenings(19);
            return x;
        };
        Edge.due(late, x -> x.count(2), 9979);
        Edge.due(late, x -> x.evenings(20), 9999);
        Edge.due(late, x -> { x.evenings(1); return x.evenings(20); }, -1);
        Edge.due(late, x -> { x.evenings(1); return x.evenings(19); }, 9999);
        NewHouses last = late.get();
        last.evenings(20);
        int refused = last.count(15);
        Edge.due(last.evenings(1), -1);
        Edge.due(last.evenings(Edge.MAX), -1);
        Edge.due(last.count(15), refused + 2);
        Edge.due(last.count(2), 9999);
    }

    // ---- promises 9 to 12

    private static void moves() {
        Edge.says("MOVES: the HOUSE (by its number before) where one lived. NONE (STATUS 1): one lives there.");
        for (int p = 0; p < 5; p++) {
            int person = p;
            Edge.refused(Edge.FIVE, 1, x -> x.move(person, x.person(person, 0)));
        }
        Edge.due(Edge.FIVE, x -> x.move(4, 0), 2);
        Edge.due(Edge.FIVE, x -> x.move(0, 2), 0);
        Edge.says("NoSuchElementException (ahead): no such PERSON, HOUSE.");
        Edge.no(Edge.FIVE, x -> x.move(5, 0));
        Edge.no(Edge.FIVE, x -> x.move(5, 3));
        Edge.no(NewHouses::new, x -> x.move(0, 0));
        Edge.says("one MOVES to another HOUSE, behind all there");
        NewHouses x = Edge.told(Edge.FIVE);
        x.move(0, 1);
        rows(x, "1 2|3 0|4");
        NewHouses up = Edge.told("person 0;person 0;person 0;house 1 0;");
        up.move(1, 1);
        rows(up, "0|2 1");
        NewHouses behind = Edge.told("person 0;person 0;person 0;house 1 0;");
        behind.move(0, 1);
        rows(behind, "1|2 0");
        Edge.says("HOUSES that are empty fall.");
        NewHouses first = Edge.told("person 0;person 0;person 0;");
        Edge.due(first.move(0, 2), 0);
        rows(first, "1|2 0");
        Edge.due(first.person(0, 0), 1);
        Edge.due(first.move(1, 1), 0);
        rows(first, "2 0 1");
        Edge.due(first.count(1), 1);
        // A HOUSE that has fallen counts no more: 1|2 3 4 0 -> 1 2|3 4 0
        NewHouses fallen = Edge.told(Edge.people(0, 0, 0, 0, 0) + "house 0;house 1;house 2 3 4;");
        fallen.move(0, 2);
        fallen.move(2, 0);
        rows(fallen, "1 2|3 4 0");
        int[] counts = {5, 2, 0, 3, 0, 0, 2, 0};
        for (int what = 0; what < counts.length; what++) Edge.due(fallen.count(what), counts[what]);
        Edge.due(fallen.partners(0), 2);
        Edge.due(fallen.size(2, 0), -1);
        Edge.due(fallen.ahead(0, 2), 0);
        Edge.says("Who MOVES, FOUNDS, is JOINED lives there since this EVENING, but hasn't gone ('moves' stay)");
        NewHouses since = Edge.told(Edge.FIVE);
        since.evenings(3);
        // 2|1|0 3 4
        since.move(2, 1);
        Edge.due(since.person(2, 4), 0);
        Edge.due(since.person(2, 3), 1);
        Edge.due(since.person(1, 4), 1);
        since.found(4);
        Edge.due(since.person(4, 4), 0);
        Edge.due(since.person(4, 3), 3);
        since.evenings(1);
        // 1|0|2 3 4
        Edge.due(since.person(1, 4), 2);
        since.join(0, 2);
        Edge.due(since.person(1, 4), 0);
        Edge.due(since.person(1, 3), 1);
        Edge.due(since.person(3, 4), 0);
        since.evenings(1);
        Edge.due(since.person(2, 4), 1);
    }

    private static void founds() {
        Edge.says("FOUNDS: how many HOUSES there are. NONE (STATUS 1): one lives alone.");
        Edge.refused(Edge.FIVE, 1, x -> x.found(3));
        Edge.refused("person 0;", 1, x -> x.found(0));
        Edge.refused(Edge.TWELVE, 1, x -> x.found(11));
        Edge.due("person 0;person 0;house 0 1;", x -> x.found(0), 2);
        Edge.due(Edge.TWELVE + "house 3 4;", x -> x.found(3), 12);
        Edge.says("one FOUNDS a HOUSE alone, behind all (who doesn't live alone)");
        NewHouses x = Edge.told(Edge.FIVE);
        x.evenings(1);
        // 0 1|2 3 4
        x.found(0);
        rows(x, "1|2 3 4|0");
        Edge.due(x.house(2, 6), 0);
        Edge.due(x.house(1, 6), 0);
        Edge.due(x.house(0, 6), 1);
        NewHouses all = Edge.told(Edge.TWELVE + "house 3 4;");
        all.found(3);
        rows(all, "4|0|1|2|5|6|7|8|9|10|11|3");
    }

    private static void joins() {
        Edge.says("JOINED, the first one to the other one: how many live there then. NONE (STATUS 1): both are one.");
        for (int h = 0; h < 3; h++) {
            int house = h;
            Edge.refused(Edge.FIVE, 1, x -> x.join(house, house));
        }
        Edge.due(Edge.FIVE, x -> x.join(0, 2), 4);
        Edge.due(Edge.FIVE, x -> x.join(2, 0), 4);
        Edge.due(Edge.FIVE, x -> x.join(1, 2), 2);
        Edge.says("its PEOPLE live there, behind all, in their order");
        NewHouses ahead = Edge.told("person 0;person 0;person 0;person 0;house 3 1;house 2 0;");
        ahead.join(0, 1);
        rows(ahead, "2 0 3 1");
        NewHouses back = Edge.told("person 0;person 0;person 0;person 0;house 3 1;house 2 0;");
        back.join(1, 0);
        rows(back, "3 1 2 0");
        NewHouses most = Edge.told(Edge.TWELVE + "house 0 1 2 3 4 5;house 6 7 8 9 10 11;");
        Edge.due(most.join(1, 0), 12);
        Edge.says("a HOUSE is OLD since it was founded (at first 0; JOINED ones count no more)");
        NewHouses old = Edge.told(Edge.FIVE);
        old.evenings(2);
        // 0|2 3|1 4, founded on 0, 1, 2
        for (int h = 0; h < 3; h++) Edge.due(old.house(h, 6), 2 - h);
        old.join(0, 2);
        rows(old, "2 3|1 4 0");
        Edge.due(old.house(0, 6), 1);
        Edge.due(old.house(1, 6), 0);
        old.join(1, 0);
        Edge.due(old.house(0, 6), 1);
        Edge.due("person 0;", x -> x.house(0, 6), 0);
    }

    private static void ranks() {
        Edge.says("The RANK as it was. NONE (STATUS 1): not 0 to 9, it is so.");
        for (int rank : new int[] {5, -1, 10, Edge.MIN, Edge.MAX}) Edge.refused(Edge.FIVE, 1, x -> x.rank(0, rank));
        Edge.refused("person 0;", 1, x -> x.rank(0, 0));
        Edge.refused("person 9;", 1, x -> x.rank(0, 9));
        Edge.due(Edge.FIVE, x -> x.rank(0, 0), 5);
        Edge.due(Edge.FIVE, x -> x.rank(0, 9), 5);
        Edge.due("person 0;", x -> x.rank(0, 1), 0);
        Edge.due("person 9;", x -> { x.rank(0, 0); return x.person(0, 2); }, 0);
        Edge.due("person 0;", x -> { x.rank(0, 9); return x.person(0, 2); }, 9);
        Edge.no(Edge.FIVE, x -> x.rank(5, 10));
        NewHouses x = Edge.told(Edge.FIVE);
        x.evenings(2);
        x.rank(3, 0);
        Edge.due(x.person(3, 4), 1);
        Edge.due(x.person(3, 3), 1);
    }

    // ---- promise 13

    private static void actsKept() {
        Edge.says("ACTS (at most 40 are kept, the latest ones)");
        NewHouses x = Edge.told(Edge.FIVE);
        for (int i = 1; i <= 42; i++) {
            x.evenings(1);
            Edge.due(x.count(11), Math.min(i, 40));
        }
        for (int left = 39; left >= 0; left--) {
            Edge.due(x.undo(), left);
            Edge.due(x.count(2), left + 2);
        }
        Edge.due(x.undo(), -1);
        Edge.due(x.count(2), 2);
        NewHouses forty = Edge.told(Edge.FIVE);
        for (int i = 0; i < 40; i++) forty.evenings(1);
        for (int left = 39; left >= 0; left--) Edge.due(forty.undo(), left);
        Edge.due(forty.count(2), 0);
        rows(forty, "0 1 2|3|4");
        NewHouses again = Edge.told(Edge.FIVE);
        for (int i = 0; i < 45; i++) again.evenings(1);
        for (int i = 0; i < 20; i++) again.undo();
        for (int i = 0; i < 21; i++) again.rank(0, i % 2);
        Edge.due(again.count(11), 40);
        for (int i = 0; i < 40; i++) again.undo();
        Edge.due(again.count(2), 6);
    }

    private static void undos() {
        Edge.says("The last ACT is UNDONE: how many are left. NONE: there is none.");
        Edge.refused(NewHouses::new, -1, NewHouses::undo);
        Edge.refused(Edge.FIVE, -1, NewHouses::undo);
        Edge.refused(() -> { NewHouses x = Edge.told(Edge.FIVE); x.evenings(1); x.undo(); return x; }, -1, NewHouses::undo);
        Edge.says("They are UNDONE, the last one first.");
        undone(x -> x.evenings(20));
        undone(x -> x.move(4, 0));
        undone(x -> x.move(1, 1));
        undone(x -> x.found(4));
        undone(x -> x.join(0, 2));
        undone(x -> x.join(2, 0));
        undone(x -> x.rank(2, 0));
        // What is refused, or throws, is no ACT.
        NewHouses x = Edge.told(Edge.FIVE);
        x.rank(0, 1);
        x.rank(0, 1);
        x.evenings(21);
        x.join(1, 1);
        x.move(0, 0);
        x.found(3);
        Edge.due(x.count(11), 1);
        Edge.due(x.undo(), 0);
        Edge.due(x.person(0, 2), 5);
        // What is SEEN is no ACT.
        x.see(0, 0, 3);
        Edge.due(x.undo(), -1);
        x.evenings(1);
        x.see(0, 0, 3);
        x.undo();
        Edge.due(x.count(12), 2);
    }

    /** The ACT does something, and undo() takes all of it back. */
    private static void undone(Edge.Call act) {
        NewHouses x = Edge.told(Edge.FIVE);
        x.evenings(2);
        List<Integer> before = Edge.all(x);
        Edge.holds(act.of(x) >= 0);
        Edge.holds(!Edge.all(x).equals(before));
        Edge.due(x.undo(), 1);
        Edge.holds(Edge.all(x).equals(before));
    }

    // ---- promises 39, 40

    private static void images() {
        Edge.says("ACTS and what is SEEN are kept as an image, in place of another one.");
        NewHouses x = Edge.told(Edge.FIVE);
        x.image();
        x.evenings(3);
        x.image();
        x.evenings(4);
        Edge.holds(x.restore());
        Edge.due(x.count(2), 3);
        Edge.due(x.count(11), 1);
        Edge.due(x.undo(), 0);
        Edge.due(x.count(2), 0);
        Edge.holds(x.restore());
        Edge.due(x.count(2), 3);
        Edge.says("The EVENING, HOUSES and who lives there since when, RANKS, how often all have gone");
        NewHouses all = Edge.told(Edge.FIVE);
        for (int i = 0; i < 41; i++) all.rank(0, i % 2);
        all.evenings(3);
        for (int i = 0; i < 8; i++) all.see(i % 5, i, 1 + i % 3);
        List<Integer> before = Edge.all(all);
        all.image();
        Edge.due(all.join(0, 1), 2);
        Edge.due(all.rank(2, 3), 9);
        Edge.due(all.found(2), 3);
        Edge.due(all.evenings(5), 8);
        all.forget();
        all.see(0, 0, 12);
        Edge.holds(all.restore());
        Edge.holds(Edge.all(all).equals(before));
        for (int left = 39; left >= 0; left--) Edge.due(all.undo(), left);
        Edge.due(all.undo(), -1);
        Edge.holds(all.restore());
        Edge.holds(Edge.all(all).equals(before));
        NewHouses acts = Edge.told(Edge.FIVE);
        for (int i = 0; i < 5; i++) acts.evenings(1);
        acts.image();
        for (int i = 0; i < 40; i++) acts.rank(0, i % 2);
        acts.restore();
        for (int left = 4; left >= 0; left--) {
            Edge.due(acts.undo(), left);
            Edge.due(acts.count(2), left);
            Edge.due(acts.person(0, 2), 5);
        }
        // Behind 2 it is 0|2 3|1 4: who, when and in a HOUSE of how many, all three come back.
        NewHouses seen = Edge.told(Edge.FIVE);
        seen.see(3, 2, 2);
        seen.image();
        for (int[] other : new int[][] {{0, 2, 2}, {3, 0, 2}, {3, 2, 3}}) {
            seen.forget();
            seen.see(other[0], other[1], other[2]);
            Edge.due(seen.ranked(2), 0);
            seen.restore();
            Edge.due(seen.ranked(2), 1);
        }
        NewHouses same = Edge.told(Edge.FIVE);
        same.evenings(3);
        before = Edge.all(same);
        same.image();
        Edge.holds(Edge.all(same).equals(before));
        NewHouses none = new NewHouses();
        none.image();
        none.evenings(1);
        Edge.holds(none.restore());
        Edge.due(none.count(2), 0);
    }

    private static void restores() {
        Edge.says("They are as the image again: true. False: there is none.");
        Edge.holds(!new NewHouses().restore());
        NewHouses x = Edge.told(Edge.FIVE);
        x.evenings(2);
        List<Integer> before = Edge.all(x);
        Edge.holds(!x.restore());
        Edge.holds(Edge.all(x).equals(before));
        x.image();
        Edge.holds(x.restore());
        Edge.holds(x.restore());
        // STATUS, the tape, the FAULT's place are none of these.
        Edge.tell(x, "#");
        Edge.feed(x, "person 0;");
        x.evenings(0);
        x.see(0, 21, 1);
        Edge.holds(x.restore());
        for (int what = 14; what <= 16; what++) Edge.due(x.count(what), 1);
        Edge.due(x.count(13), 20);
        Edge.due(x.fault(), 0);
        Edge.due(x.village(9), 0);
        Edge.holds(!x.restore());
        Edge.due(x.count(0), 1);
    }

    private static void status() {
        Edge.says("STATUS: how many calls were refused: 0 of TEXTS with a FAULT, 1 of ACTS, 2 of what is SEEN.");
        NewHouses x = Edge.told(Edge.FIVE);
        for (int i = 1; i <= 3; i++) {
            Edge.tell(x, "person 10;");
            Edge.due(x.count(14), i);
        }
        x.evenings(0);
        x.move(0, 0);
        x.found(3);
        x.join(0, 0);
        x.rank(0, 5);
        Edge.due(x.count(15), 5);
        x.see(0, -1, 1);
        x.see(0, 0, 0);
        Edge.due(x.count(16), 2);
        // NONE of these is a refusal.
        x.undo();
        x.restore();
        x.meet(0, 0, 0);
        x.toMeet(0, 0);
        x.falls(0);
        x.toJoin();
        for (int i = 0; i < 36; i++) x.feed(0, 0, 0, 0, 0);
        Edge.due(x.count(14), 3);
        Edge.due(x.count(15), 5);
        Edge.due(x.count(16), 2);
    }
}
