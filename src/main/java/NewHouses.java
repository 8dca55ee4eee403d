import java.util.Arrays;
import java.util.NoSuchElementException;

/** A village in which, each dusk, one goes out of every house, and those make a new house together. */
public final class NewHouses {
    public static final int NONE = -1;

    private static final int MOST_PEOPLE = 12;
    /** One more than can stay: a new HOUSE is there before the empty ones fall. */
    private static final int HOUSE_ROWS = 13;
    private static final int MOST_COUPLES = 12;
    private static final int MOST_BYTES = 700;
    private static final int BYTES_A_FEED = 20;
    private static final int MOST_ACTS = 40;
    private static final int MOST_SEEN = 8;
    private static final int MOST_RANK = 9;
    /** No difference of RANKS, summed, is as great. */
    private static final int MORE_THAN_RANKS = 1000;
    private static final int LAST_EVENING = 9999;
    private static final int MOST_EVENINGS_AN_ACT = 20;
    private static final int FAR = 100;
    private static final int FARTHEST = 200;
    private static final int MEET_WITHIN = 60;
    private static final int LOOK_BEHIND = 5;
    private static final int GAME_BEHIND = 6;

    /** What PICKS may ask are the VALUES from RANK to EVENING, KEEPS those from SIZE to OLD. */
    private static final int RANK = 0;
    private static final int PLACE = 1;
    private static final int SINCE = 2;
    private static final int MOVES = 3;
    private static final int SIZE = 4;
    private static final int EVENING = 5;
    private static final int HOUSE = 6;
    private static final int RANKS = 7;
    private static final int OLD = 8;
    private static final int VALUES = 9;

    private static final int TEXTS = 0;
    private static final int ACTS = 1;
    private static final int SIGHTS = 2;

    private final byte[] tape = new byte[MOST_BYTES];
    private int fed = 0;
    private int faultPlace = NONE;
    private final int[] refused = new int[3];

    private final Reader reader = new Reader();
    private final Friends friends = new Friends();
    private final Dusk dusk = new Dusk();
    private final Village now = new Village();
    private final Coming coming = new Coming(dusk, now);
    private final Acts acts = new Acts();
    private final Seen seen = new Seen();
    private final Pairs pairs = new Pairs();
    private final Trials trials = new Trials(dusk);

    private boolean imaged = false;
    private final Village imageNow = new Village();
    private final Acts imageActs = new Acts();
    private final Seen imageSeen = new Seen();

    public NewHouses() {
    }

    // ---- the tape and the village

    public int feed(int a, int b, int c, int d, int e) {
        if (fed > MOST_BYTES - BYTES_A_FEED) {
            return NONE;
        }
        putNumber(a);
        putNumber(b);
        putNumber(c);
        putNumber(d);
        putNumber(e);
        return fed;
    }

    private void putNumber(int number) {
        for (int shift = 24; shift >= 0 && fed < MOST_BYTES; shift -= 8) {
            tape[fed] = (byte) (number >> shift);
            fed++;
        }
    }

    public int village(int n) throws IllegalArgumentException {
        if (n < 0 || n > fed) {
            throw new IllegalArgumentException("the tape has not so many bytes");
        }
        int fault = reader.read(tape, n);
        fed = 0;
        if (fault != 0) {
            faultPlace = reader.place();
            refused[TEXTS]++;
            return fault;
        }
        faultPlace = NONE;
        now.copyFrom(reader.village);
        friends.copyFrom(reader.friends);
        dusk.picks.copyFrom(reader.picks);
        dusk.keeps.copyFrom(reader.keeps);
        coming.changed();
        acts.many = 0;
        seen.many = 0;
        imaged = false;
        return 0;
    }

    public int fault() {
        return faultPlace;
    }

    // ---- what is so now

    public int count(int what) throws NoSuchElementException {
        switch (what) {
            case 0: return now.people;
            case 1: return now.houses;
            case 2: return now.evening;
            case 3: return now.greatest();
            case 4: return now.alone();
            case 5: return now.isStairs() ? 1 : 0;
            case 6: return now.pasts();
            case 7: return now.pasts() == 0 ? 1 : 0;
            case 8: return friends.couples;
            case 9: return friends.inOneHouse(now);
            case 10: return friends.toTell(now.people);
            case 11: return acts.many;
            case 12: return seen.many;
            case 13: return fed;
            case 14: return refused[TEXTS];
            case 15: return refused[ACTS];
            case 16: return refused[SIGHTS];
            default: throw new NoSuchElementException("no such count");
        }
    }

    public int person(int person, int what) throws NoSuchElementException {
        needPerson(person);
        switch (what) {
            case 0: return now.home[person];
            case 1: return now.place[person];
            case 2: return now.rank[person];
            case 3: return now.moves[person];
            case 4: return now.since(person);
            case 5: return now.companions(person);
            case 6: return friends.of(person);
            case 7: return dusk.leaverOf(now, now.home[person]) == person ? 1 : 0;
            case 8: return pairs.partnerOf(now, person);
            default: throw new NoSuchElementException("no such thing of a person");
        }
    }

    public int house(int house, int what) throws NoSuchElementException {
        needHouse(house);
        switch (what) {
            case 0: return now.size[house];
            case 1: return now.dwellers(house);
            case 2: return now.at(house, 0);
            case 3: return now.at(house, now.size[house] - 1);
            case 4: return now.ranksIn(house);
            case 5: return dusk.leaverOf(now, house);
            case 6: return now.old(house);
            default: throw new NoSuchElementException("no such thing of a house");
        }
    }

    // ---- ACTS

    public int evenings(int many) {
        if (many < 1 || many > MOST_EVENINGS_AN_ACT || now.evening + many > LAST_EVENING) {
            return refuse(ACTS);
        }
        acts.keep(now);
        now.copyFrom(coming.behind(many));
        coming.changed();
        return now.evening;
    }

    public int move(int person, int house) throws NoSuchElementException {
        needPerson(person);
        needHouse(house);
        int before = now.home[person];
        if (before == house) {
            return refuse(ACTS);
        }
        acts.keep(now);
        now.moveTo(person, house);
        coming.changed();
        return before;
    }

    public int found(int person) throws NoSuchElementException {
        needPerson(person);
        if (now.isAlone(person)) {
            return refuse(ACTS);
        }
        acts.keep(now);
        now.foundBy(person);
        coming.changed();
        return now.houses;
    }

    public int join(int house, int to) throws NoSuchElementException {
        needHouse(house);
        needHouse(to);
        if (house == to) {
            return refuse(ACTS);
        }
        int together = now.size[house] + now.size[to];
        acts.keep(now);
        now.joinTo(house, to);
        coming.changed();
        return together;
    }

    public int rank(int person, int rank) throws NoSuchElementException {
        needPerson(person);
        int before = now.rank[person];
        if (rank < 0 || rank > MOST_RANK || rank == before) {
            return refuse(ACTS);
        }
        acts.keep(now);
        now.rank[person] = rank;
        coming.changed();
        return before;
    }

    public int undo() {
        if (acts.many == 0) {
            return NONE;
        }
        acts.takeBack(now);
        coming.changed();
        return acts.many;
    }

    // ---- if only EVENINGS go by

    public int then(int person, int evenings, int what) throws NoSuchElementException, IllegalArgumentException {
        needPerson(person);
        needWhat(what, 3);
        needWithin(evenings, 0, FAR);
        Village then = coming.behind(evenings);
        int home = then.home[person];
        switch (what) {
            case 0: return home;
            case 1: return then.place[person];
            case 2: return then.moves[person];
            default: return then.size[home];
        }
    }

    public int size(int i, int evenings) throws IllegalArgumentException {
        needWithin(evenings, 0, FAR);
        needWithin(i, 0, MOST_PEOPLE - 1);
        return coming.behind(evenings).greatestButFor(i);
    }

    public int later(int evenings, int what) throws NoSuchElementException, IllegalArgumentException {
        needWhat(what, 4);
        needWithin(evenings, 0, FAR);
        Village then = coming.behind(evenings);
        switch (what) {
            case 0: return then.houses;
            case 1: return then.greatest();
            case 2: return then.alone();
            case 3: return friends.inOneHouse(then);
            default: return then.isStairs() ? 1 : 0;
        }
    }

    public int meet(int person, int other, int what) throws NoSuchElementException {
        needPerson(person);
        needPerson(other);
        needWhat(what, 1);
        return person == other ? NONE : coming.firstWith(person, other, what == 0);
    }

    public int together(int person, int other, int evenings) throws NoSuchElementException, IllegalArgumentException {
        needPerson(person);
        needPerson(other);
        needWithin(evenings, 1, FAR);
        int many = 0;
        for (int i = 1; i <= evenings; i++) {
            if (coming.behind(i).inOne(person, other)) {
                many++;
            }
        }
        return many;
    }

    public int goes(int person, int what) throws NoSuchElementException {
        needPerson(person);
        needWhat(what, 1);
        return what == 0 ? coming.firstGoing(person) : coming.longestStay(person);
    }

    public int falls(int house) throws NoSuchElementException {
        needHouse(house);
        return coming.firstEmpty(house);
    }

    public int who(int house, int place, int evenings) throws IllegalArgumentException {
        needWithin(house, 0, MOST_PEOPLE - 1);
        needWithin(place, 0, MOST_PEOPLE - 1);
        needWithin(evenings, 0, FAR);
        return coming.behind(evenings).at(house, place);
    }

    public int round(int what) throws NoSuchElementException {
        needWhat(what, 1);
        return coming.sizesRound(what == 0);
    }

    public int asNow() {
        return coming.firstAsNow();
    }

    public int known(int person, int evenings) throws NoSuchElementException, IllegalArgumentException {
        needPerson(person);
        needWithin(evenings, 0, FAR);
        return coming.knownWithin(evenings).of(person);
    }

    public int allKnown() {
        return coming.untilAllKnown();
    }

    // ---- what is best now

    public int toMeet(int person, int other) throws NoSuchElementException {
        needPerson(person);
        needPerson(other);
        if (now.inOne(person, other)) {
            return NONE;
        }
        return trials.bestMove(now, person, other, coming.firstWith(person, other, true));
    }

    public int partners(int what) throws NoSuchElementException {
        needWhat(what, 1);
        return what == 0 ? pairs.many(now) : pairs.difference(now);
    }

    public int halves(int what) throws NoSuchElementException {
        needWhat(what, 1);
        int half = pairs.firstHalf(now);
        return what == 0 ? pairs.differenceBy(now, half) : half;
    }

    public int chain(int person, int other) throws NoSuchElementException {
        needPerson(person);
        needPerson(other);
        return friends.stepsBetween(person, other);
    }

    // ---- what is SEEN

    public int see(int person, int evenings, int size) throws NoSuchElementException {
        needPerson(person);
        if (seen.many >= MOST_SEEN || evenings < 0 || evenings > Seen.LATEST || size < 1 || size > MOST_PEOPLE) {
            return refuse(SIGHTS);
        }
        seen.add(person, evenings, size);
        return seen.many;
    }

    public void forget() {
        seen.many = 0;
    }

    public int ranked(int what) throws NoSuchElementException {
        needWhat(what, 2);
        if (what == 2) {
            return trials.isSoWithout(now, seen) ? 1 : 0;
        }
        trials.tryRanks(now, seen, false);
        return what == 0 ? trials.rankedMany : trials.rankedFirst;
    }

    public int look(int what) throws NoSuchElementException {
        needWhat(what, 1);
        trials.tryRanks(now, seen, true);
        int whom = trials.mostUnlike(now.people);
        if (what == 0) {
            return whom;
        }
        return whom == NONE ? 0 : trials.unlikeSizes(whom);
    }

    // ---- chance, a game, years

    public int storms(int person, int other, int evenings, int tenths)
            throws NoSuchElementException, IllegalArgumentException {
        needPerson(person);
        needPerson(other);
        needWithin(evenings, 1, 5);
        needWithin(tenths, 0, 10);
        return trials.byStorms(now, person, other, evenings, tenths);
    }

    public int game(int person, int other, int what) throws NoSuchElementException, IllegalArgumentException {
        needPerson(person);
        needPerson(other);
        needWhat(what, 1);
        if (person == other) {
            throw new IllegalArgumentException("a game is of two");
        }
        trials.play(now, friends, person, other);
        return what == 0 ? trials.restsMany() : trials.restsFirst();
    }

    public int years(int seed, int n, int what) throws NoSuchElementException, IllegalArgumentException {
        needWhat(what, 2);
        needWithin(n, 0, FAR);
        return trials.liveYears(now, seed, n, what);
    }

    public int ahead(int evenings, int what) throws NoSuchElementException, IllegalArgumentException {
        needWhat(what, 3);
        needWithin(evenings, 0, FAR);
        switch (what) {
            case 0: return coming.mostRestless(evenings);
            case 1: return coming.behind(evenings).steadiest();
            case 2: return coming.behind(evenings).oldest();
            default: return coming.knownWithin(evenings).strangers(now.people);
        }
    }

    public int toJoin() {
        return trials.bestJoin(now, coming.untilAllKnown());
    }

    // ---- the image

    public void image() {
        imaged = true;
        imageNow.copyFrom(now);
        imageActs.copyFrom(acts);
        imageSeen.copyFrom(seen);
    }

    public boolean restore() {
        if (!imaged) {
            return false;
        }
        now.copyFrom(imageNow);
        coming.changed();
        acts.copyFrom(imageActs);
        seen.copyFrom(imageSeen);
        return true;
    }

    // ---- what calls need

    private void needPerson(int person) {
        if (person < 0 || person >= now.people) {
            throw new NoSuchElementException("no such person");
        }
    }

    private void needHouse(int house) {
        if (house < 0 || house >= now.houses) {
            throw new NoSuchElementException("no such house");
        }
    }

    private static void needWhat(int what, int last) {
        if (what < 0 || what > last) {
            throw new NoSuchElementException("no such thing to ask");
        }
    }

    private static void needWithin(int number, int least, int most) {
        if (number < least || number > most) {
            throw new IllegalArgumentException("a number is out of its bounds");
        }
    }

    private int refuse(int status) {
        refused[status]++;
        return NONE;
    }

    /** Who lives where since when: all that EVENINGS and ACTS change. */
    static final class Village {
        int people = 0;
        int houses = 0;
        int evening = 0;
        final int[] rank = new int[MOST_PEOPLE];
        final int[] home = new int[MOST_PEOPLE];
        final int[] place = new int[MOST_PEOPLE];
        final int[] came = new int[MOST_PEOPLE];
        final int[] moves = new int[MOST_PEOPLE];
        final int[] size = new int[HOUSE_ROWS];
        final int[] founded = new int[HOUSE_ROWS];

        void copyFrom(Village other) {
            people = other.people;
            houses = other.houses;
            evening = other.evening;
            System.arraycopy(other.rank, 0, rank, 0, MOST_PEOPLE);
            System.arraycopy(other.home, 0, home, 0, MOST_PEOPLE);
            System.arraycopy(other.place, 0, place, 0, MOST_PEOPLE);
            System.arraycopy(other.came, 0, came, 0, MOST_PEOPLE);
            System.arraycopy(other.moves, 0, moves, 0, MOST_PEOPLE);
            System.arraycopy(other.size, 0, size, 0, HOUSE_ROWS);
            System.arraycopy(other.founded, 0, founded, 0, HOUSE_ROWS);
        }

        void clear() {
            people = 0;
            houses = 0;
            evening = 0;
        }

        /** One who has no HOUSE yet. */
        void addPerson(int newRank) {
            if (people >= MOST_PEOPLE) {
                return;
            }
            rank[people] = newRank;
            home[people] = NONE;
            place[people] = 0;
            came[people] = 0;
            moves[people] = 0;
            people++;
        }

        /** An empty HOUSE behind all: its number. */
        int addHouse() {
            int house = Math.min(houses, HOUSE_ROWS - 1);
            size[house] = 0;
            founded[house] = evening;
            houses = house + 1;
            return house;
        }

        void enter(int person, int house) {
            home[person] = house;
            place[person] = size[house];
            came[person] = evening;
            size[house]++;
        }

        private void leave(int person) {
            int from = home[person];
            for (int p = 0; p < people; p++) {
                if (home[p] == from && place[p] > place[person]) {
                    place[p]--;
                }
            }
            size[from]--;
        }

        void moveTo(int person, int house) {
            leave(person);
            enter(person, house);
            dropEmpty();
        }

        void foundBy(int person) {
            leave(person);
            enter(person, addHouse());
            dropEmpty();
        }

        void joinTo(int house, int to) {
            for (int p = 0; p < people; p++) {
                if (home[p] == house) {
                    home[p] = to;
                    place[p] += size[to];
                    came[p] = evening;
                }
            }
            size[to] += size[house];
            size[house] = 0;
            dropEmpty();
        }

        /** The new numbers stand in a long, four bits for each old one, so that no row need be made. */
        void dropEmpty() {
            long numbers = 0;
            int kept = 0;
            for (int h = 0; h < houses; h++) {
                if (size[h] > 0) {
                    numbers |= (long) kept << (4 * h);
                    size[kept] = size[h];
                    founded[kept] = founded[h];
                    kept++;
                }
            }
            if (kept < houses) {
                for (int p = 0; p < people; p++) {
                    home[p] = (int) (numbers >>> (4 * home[p])) & 15;
                }
                houses = kept;
            }
        }

        int since(int person) {
            return evening - came[person];
        }

        int old(int house) {
            return evening - founded[house];
        }

        boolean inOne(int person, int other) {
            return home[person] == home[other];
        }

        boolean isAlone(int person) {
            return size[home[person]] == 1;
        }

        /** Bits of all in a HOUSE. */
        int dwellers(int house) {
            int bits = 0;
            for (int p = 0; p < people; p++) {
                if (home[p] == house) {
                    bits |= 1 << p;
                }
            }
            return bits;
        }

        int companions(int person) {
            return dwellers(home[person]) & ~(1 << person);
        }

        int ranksIn(int house) {
            int sum = 0;
            for (int p = 0; p < people; p++) {
                if (home[p] == house) {
                    sum += rank[p];
                }
            }
            return sum;
        }

        /** NONE, if there is no such HOUSE or PLACE. */
        int at(int house, int where) {
            for (int p = 0; p < people; p++) {
                if (home[p] == house && place[p] == where) {
                    return p;
                }
            }
            return NONE;
        }

        int greatest() {
            int most = 0;
            for (int h = 0; h < houses; h++) {
                most = Math.max(most, size[h]);
            }
            return most;
        }

        /** The size of the HOUSE behind so many greater or like ones; NONE, if there are fewer. */
        int greatestButFor(int ahead) {
            int left = ahead;
            for (int s = people; s > 0; s--) {
                for (int h = 0; h < houses; h++) {
                    if (size[h] == s) {
                        if (left == 0) {
                            return s;
                        }
                        left--;
                    }
                }
            }
            return NONE;
        }

        int alone() {
            int bits = 0;
            for (int p = 0; p < people; p++) {
                if (isAlone(p)) {
                    bits |= 1 << p;
                }
            }
            return bits;
        }

        /** As many HOUSES as the greatest has PEOPLE, and no size missing: then each is there once. */
        boolean isStairs() {
            int sizes = 0;
            for (int h = 0; h < houses; h++) {
                sizes |= 1 << (size[h] - 1);
            }
            return sizes == (1 << houses) - 1;
        }

        /** How many HOUSES there are of each size, four bits for each: alike for like SIZES alone. */
        long sizesKey() {
            long key = 0;
            for (int h = 0; h < houses; h++) {
                key += 1L << (4 * (size[h] - 1));
            }
            return key;
        }

        /**
         * The new HOUSE has one from each HOUSE before, so each size that may be the new one's tells one past: the
         * other HOUSES had one more, and the rest of those before had one and fell. There must be as many before as
         * are left of them now.
         */
        int pasts() {
            if (people == 0) {
                return 1;
            }
            int newSizes = 0;
            for (int h = 0; h < houses; h++) {
                if (size[h] >= houses - 1) {
                    newSizes |= 1 << size[h];
                }
            }
            return Integer.bitCount(newSizes);
        }

        int steadiest() {
            int whom = NONE;
            for (int p = 0; p < people; p++) {
                if (whom == NONE || came[p] < came[whom]) {
                    whom = p;
                }
            }
            return whom;
        }

        /** How OLD the OLDEST HOUSE is. */
        int oldest() {
            int most = NONE;
            for (int h = 0; h < houses; h++) {
                most = Math.max(most, old(h));
            }
            return most;
        }
    }

    /** PICKS or KEEPS: steps for a stack, a number being itself, a VALUE and a sign being above all numbers. */
    static final class Rule {
        static final int FIRST_VALUE = 10000;
        static final int FIRST_SIGN = 20000;
        /** Six EXPRS within each other leave five halves open each. */
        private static final int DEEPEST = 40;

        boolean told = false;
        private int length = 0;
        private final int[] steps = new int[MOST_BYTES];
        private final int[] stack = new int[DEEPEST];

        void clear() {
            told = false;
            length = 0;
        }

        void copyFrom(Rule other) {
            told = other.told;
            length = other.length;
            System.arraycopy(other.steps, 0, steps, 0, other.length);
        }

        void add(int step) {
            if (length < steps.length) {
                steps[length] = step;
                length++;
            }
        }

        int of(int[] values) {
            int top = 0;
            for (int i = 0; i < length; i++) {
                int step = steps[i];
                if (step < FIRST_SIGN && top < DEEPEST) {
                    stack[top] = step < FIRST_VALUE ? step : values[step - FIRST_VALUE];
                    top++;
                } else if (step == FIRST_SIGN + '!' && top > 0) {
                    stack[top - 1] = stack[top - 1] == 0 ? 1 : 0;
                } else if (top > 1) {
                    top--;
                    int left = stack[top - 1];
                    int right = stack[top];
                    int both;
                    switch (step - FIRST_SIGN) {
                        case '+': both = left + right; break;
                        case '-': both = left - right; break;
                        case '*': both = left * right; break;
                        case '/': both = right == 0 ? 0 : left / right; break;
                        case '<': both = left < right ? 1 : 0; break;
                        case '=': both = left == right ? 1 : 0; break;
                        case '&': both = left != 0 && right != 0 ? 1 : 0; break;
                        default: both = left != 0 || right != 0 ? 1 : 0; break;
                    }
                    stack[top - 1] = both;
                }
            }
            return top > 0 ? stack[0] : 0;
        }
    }

    /** Couples of FRIENDS. */
    static final class Friends {
        int couples = 0;
        private final int[] one = new int[MOST_COUPLES];
        private final int[] other = new int[MOST_COUPLES];

        void copyFrom(Friends from) {
            couples = from.couples;
            System.arraycopy(from.one, 0, one, 0, MOST_COUPLES);
            System.arraycopy(from.other, 0, other, 0, MOST_COUPLES);
        }

        void add(int a, int b) {
            if (couples < MOST_COUPLES) {
                one[couples] = a;
                other[couples] = b;
                couples++;
            }
        }

        /** Bits. */
        int of(int person) {
            int bits = 0;
            for (int c = 0; c < couples; c++) {
                if (one[c] == person) {
                    bits |= 1 << other[c];
                } else if (other[c] == person) {
                    bits |= 1 << one[c];
                }
            }
            return bits;
        }

        int inOneHouse(Village village) {
            int many = 0;
            for (int c = 0; c < couples; c++) {
                if (village.inOne(one[c], other[c])) {
                    many++;
                }
            }
            return many;
        }

        /** TOLD. Sets come by their bits, so the first of as few is the least. */
        int toTell(int people) {
            int best = (1 << people) - 1;
            int fewest = people;
            for (int set = 0; set < 1 << people; set++) {
                if (Integer.bitCount(set) < fewest && eachHasOneOf(set)) {
                    best = set;
                    fewest = Integer.bitCount(set);
                }
            }
            return best;
        }

        private boolean eachHasOneOf(int set) {
            for (int c = 0; c < couples; c++) {
                if ((set >> one[c] & 1) == 0 && (set >> other[c] & 1) == 0) {
                    return false;
                }
            }
            return true;
        }

        int stepsBetween(int from, int to) {
            int reached = 1 << from;
            for (int steps = 0; steps < MOST_PEOPLE; steps++) {
                if ((reached >> to & 1) != 0) {
                    return steps;
                }
                reached |= friendsOfAll(reached);
            }
            return NONE;
        }

        private int friendsOfAll(int set) {
            int bits = 0;
            for (int c = 0; c < couples; c++) {
                if ((set >> one[c] & 1) != 0) {
                    bits |= 1 << other[c];
                }
                if ((set >> other[c] & 1) != 0) {
                    bits |= 1 << one[c];
                }
            }
            return bits;
        }
    }

    /** Reads a TEXT into drafts of its own, so that a FAULT leaves all as it was. */
    static final class Reader {
        private static final int MOST_DIGITS = 4;
        private static final int MOST_WITHIN = 6;
        private static final int MOST_NOTS = 6;
        private static final String SIGNS = ";()+-*/<=";
        /** Kinds of TOKENS; a sign's kind is its byte. */
        private static final int END = 0;
        private static final int WORD = 1;
        private static final int NUMBER = 2;
        private static final int BAD = 3;
        /** FAULTS. */
        private static final int FINE = 0;
        private static final int MISPLACED = 1;
        private static final int TOO_MUCH = 2;
        private static final int UNKNOWN = 3;
        private static final int TWICE = 4;
        private static final int SECOND_RULE = 5;

        final Village village = new Village();
        final Friends friends = new Friends();
        final Rule picks = new Rule();
        final Rule keeps = new Rule();
        private byte[] text = new byte[0];
        private int length = 0;
        private int start = 0;
        private int end = 0;
        private int kind = END;
        private int number = 0;
        /** Which VALUES the EXPR that is read may ask. */
        private boolean ofPicks = false;

        /** The FAULT, or 0. */
        int read(byte[] bytes, int many) {
            text = bytes;
            length = Math.min(many, bytes.length);
            end = 0;
            village.clear();
            friends.couples = 0;
            picks.clear();
            keeps.clear();
            next();
            int fault = FINE;
            for (int i = 0; i <= length && kind != END && fault == FINE; i++) {
                fault = line();
            }
            if (fault == FINE) {
                houseTheRest();
            }
            return fault;
        }

        /** Where the last TOKEN that was looked at begins: a FAULT is always there. */
        int place() {
            return start;
        }

        private void next() {
            start = end;
            while (start < length && (text[start] == ' ' || text[start] == '\n')) {
                start++;
            }
            if (start >= length) {
                end = start;
                kind = END;
                return;
            }
            int first = text[start] & 255;
            if (first >= 'a' && first <= 'z') {
                kind = WORD;
                end = endOfRow('a', 'z');
            } else if (first >= '0' && first <= '9') {
                kind = NUMBER;
                end = endOfRow('0', '9');
                number = numberTold();
            } else {
                kind = SIGNS.indexOf((char) first) >= 0 ? first : BAD;
                end = start + 1;
            }
        }

        private int endOfRow(char least, char most) {
            int i = start;
            while (i < length && text[i] >= least && text[i] <= most) {
                i++;
            }
            return i;
        }

        /** Only the digits that a NUMBER may have count: with more it is a FAULT anyhow. */
        private int numberTold() {
            int told = 0;
            for (int i = start; i < end && i < start + MOST_DIGITS; i++) {
                told = told * 10 + text[i] - '0';
            }
            return told;
        }

        private boolean isWord(String word) {
            if (kind != WORD || end - start != word.length()) {
                return false;
            }
            for (int i = 0; i < word.length(); i++) {
                if (text[start + i] != word.charAt(i)) {
                    return false;
                }
            }
            return true;
        }

        private int line() {
            if (isWord("person")) {
                return personLine();
            }
            if (isWord("house")) {
                return houseLine();
            }
            if (isWord("friends")) {
                return friendsLine();
            }
            if (isWord("picks")) {
                return ruleLine(picks, true);
            }
            if (isWord("keeps")) {
                return ruleLine(keeps, false);
            }
            return MISPLACED;
        }

        private int lineEnd() {
            if (kind != ';') {
                return MISPLACED;
            }
            next();
            return FINE;
        }

        private int personLine() {
            if (village.people >= MOST_PEOPLE) {
                return TOO_MUCH;
            }
            next();
            if (kind != NUMBER) {
                return MISPLACED;
            }
            if (end - start > MOST_DIGITS || number > MOST_RANK) {
                return TOO_MUCH;
            }
            village.addPerson(number);
            next();
            return lineEnd();
        }

        private int houseLine() {
            int house = village.addHouse();
            next();
            int fault = dweller(house);
            for (int i = 0; i < length && fault == FINE && kind == NUMBER; i++) {
                fault = dweller(house);
            }
            return fault != FINE ? fault : lineEnd();
        }

        private int dweller(int house) {
            int fault = toldPerson();
            if (fault != FINE) {
                return fault;
            }
            if (village.home[number] != NONE) {
                return TWICE;
            }
            village.enter(number, house);
            next();
            return FINE;
        }

        /** Whether the TOKEN is a PERSON that is told ahead: then 'number' is one of PEOPLE. */
        private int toldPerson() {
            if (kind != NUMBER) {
                return MISPLACED;
            }
            if (end - start > MOST_DIGITS) {
                return TOO_MUCH;
            }
            return number >= village.people ? UNKNOWN : FINE;
        }

        private int friendsLine() {
            if (friends.couples >= MOST_COUPLES) {
                return TOO_MUCH;
            }
            next();
            int fault = toldPerson();
            if (fault != FINE) {
                return fault;
            }
            int first = number;
            next();
            fault = toldPerson();
            if (fault != FINE) {
                return fault;
            }
            if (number == first || (friends.of(first) >> number & 1) != 0) {
                return TWICE;
            }
            friends.add(first, number);
            next();
            return lineEnd();
        }

        private int ruleLine(Rule rule, boolean isPicks) {
            if (rule.told) {
                return SECOND_RULE;
            }
            rule.told = true;
            ofPicks = isPicks;
            next();
            int fault = expr(rule, 0);
            return fault != FINE ? fault : lineEnd();
        }

        /** 'within': in how many others this EXPR is. */
        private int expr(Rule rule, int within) {
            if (within >= MOST_WITHIN && (kind == NUMBER || kind == WORD || kind == '(')) {
                return TOO_MUCH;
            }
            int fault = andPart(rule, within);
            for (int i = 0; i < length && fault == FINE && isWord("or"); i++) {
                next();
                fault = andPart(rule, within);
                rule.add(Rule.FIRST_SIGN + '|');
            }
            return fault;
        }

        private int andPart(Rule rule, int within) {
            int fault = notPart(rule, within);
            for (int i = 0; i < length && fault == FINE && isWord("and"); i++) {
                next();
                fault = notPart(rule, within);
                rule.add(Rule.FIRST_SIGN + '&');
            }
            return fault;
        }

        private int notPart(Rule rule, int within) {
            int nots = 0;
            for (int i = 0; i < length && isWord("not"); i++) {
                if (nots >= MOST_NOTS) {
                    return TOO_MUCH;
                }
                nots++;
                next();
            }
            int fault = sum(rule, within);
            if (fault == FINE && (kind == '<' || kind == '=')) {
                int sign = kind;
                next();
                fault = sum(rule, within);
                rule.add(Rule.FIRST_SIGN + sign);
            }
            for (int i = 0; i < nots; i++) {
                rule.add(Rule.FIRST_SIGN + '!');
            }
            return fault;
        }

        private int sum(Rule rule, int within) {
            int fault = product(rule, within);
            for (int i = 0; i < length && fault == FINE && (kind == '+' || kind == '-'); i++) {
                int sign = kind;
                next();
                fault = product(rule, within);
                rule.add(Rule.FIRST_SIGN + sign);
            }
            return fault;
        }

        private int product(Rule rule, int within) {
            int fault = part(rule, within);
            for (int i = 0; i < length && fault == FINE && (kind == '*' || kind == '/'); i++) {
                int sign = kind;
                next();
                fault = part(rule, within);
                rule.add(Rule.FIRST_SIGN + sign);
            }
            return fault;
        }

        private int part(Rule rule, int within) {
            if (kind == '(') {
                next();
                int fault = expr(rule, within + 1);
                if (fault == FINE && kind != ')') {
                    fault = MISPLACED;
                }
                if (fault != FINE) {
                    return fault;
                }
            } else if (kind == NUMBER) {
                if (end - start > MOST_DIGITS) {
                    return TOO_MUCH;
                }
                rule.add(number);
            } else if (kind == WORD) {
                int value = valueAsked();
                if (value == NONE) {
                    return UNKNOWN;
                }
                rule.add(Rule.FIRST_VALUE + value);
            } else {
                return MISPLACED;
            }
            next();
            return FINE;
        }

        private int valueAsked() {
            if (isWord("size")) {
                return SIZE;
            }
            if (isWord("evening")) {
                return EVENING;
            }
            if (ofPicks) {
                return isWord("rank") ? RANK : isWord("place") ? PLACE : isWord("since") ? SINCE
                        : isWord("moves") ? MOVES : NONE;
            }
            return isWord("house") ? HOUSE : isWord("ranks") ? RANKS : isWord("old") ? OLD : NONE;
        }

        private void houseTheRest() {
            for (int p = 0; p < village.people; p++) {
                if (village.home[p] == NONE) {
                    village.enter(p, village.addHouse());
                }
            }
        }
    }

    /** One EVENING. */
    static final class Dusk {
        final Rule picks = new Rule();
        final Rule keeps = new Rule();
        private final int[] leaver = new int[HOUSE_ROWS];
        private final int[] best = new int[HOUSE_ROWS];
        private final int[] ranks = new int[HOUSE_ROWS];
        private final int[] values = new int[VALUES];

        /** Who goes out of a HOUSE on the next EVENING. */
        int leaverOf(Village village, int house) {
            choose(village, 0);
            return leaver[house];
        }

        /** An EVENING goes by; those whose bits are in 'hidden' don't go. Bits of who has gone. */
        int pass(Village village, int hidden) {
            choose(village, hidden);
            comeUp(village);
            int gone = goOut(village);
            village.evening++;
            village.dropEmpty();
            return gone;
        }

        private void choose(Village village, int hidden) {
            int kept = keeps.told ? keptIn(village) : 0;
            Arrays.fill(leaver, NONE);
            for (int p = 0; p < village.people; p++) {
                int h = village.home[p];
                if ((kept >> h & 1) == 0 && (hidden >> p & 1) == 0) {
                    int worth = picks.told && village.size[h] > 1 ? worthOf(village, p) : 0;
                    int rival = leaver[h];
                    if (rival == NONE || worth > best[h]
                            || worth == best[h] && village.place[p] > village.place[rival]) {
                        leaver[h] = p;
                        best[h] = worth;
                    }
                }
            }
        }

        private int worthOf(Village village, int person) {
            values[RANK] = village.rank[person];
            values[PLACE] = village.place[person];
            values[SINCE] = village.since(person);
            values[MOVES] = village.moves[person];
            values[SIZE] = village.size[village.home[person]];
            values[EVENING] = village.evening;
            return picks.of(values);
        }

        private int keptIn(Village village) {
            Arrays.fill(ranks, 0);
            for (int p = 0; p < village.people; p++) {
                ranks[village.home[p]] += village.rank[p];
            }
            int bits = 0;
            for (int h = 0; h < village.houses; h++) {
                values[SIZE] = village.size[h];
                values[EVENING] = village.evening;
                values[HOUSE] = h;
                values[RANKS] = ranks[h];
                values[OLD] = village.old(h);
                if (keeps.of(values) > 0) {
                    bits |= 1 << h;
                }
            }
            return bits;
        }

        /** The leavers' own PLACES stay, so that all can still be compared with them. */
        private void comeUp(Village village) {
            for (int p = 0; p < village.people; p++) {
                int goer = leaver[village.home[p]];
                if (goer != NONE && village.place[p] > village.place[goer]) {
                    village.place[p]--;
                }
            }
        }

        private int goOut(Village village) {
            int before = village.houses;
            int fresh = NONE;
            int gone = 0;
            for (int h = 0; h < before; h++) {
                int goer = leaver[h];
                if (goer != NONE) {
                    if (fresh == NONE) {
                        fresh = village.addHouse();
                    }
                    village.size[h]--;
                    village.enter(goer, fresh);
                    village.moves[goer]++;
                    // They live there from the EVENING on that comes when this one has gone by.
                    village.came[goer] = village.evening + 1;
                    village.founded[fresh] = village.evening + 1;
                    gone |= 1 << goer;
                }
            }
            return gone;
        }
    }

    /** Who has lived with whom, as bits for each, oneself among them. */
    static final class Known {
        private final int[] known = new int[MOST_PEOPLE];
        private final int[] inHouse = new int[HOUSE_ROWS];

        void clear() {
            Arrays.fill(known, 0);
        }

        void liveTogether(Village village) {
            Arrays.fill(inHouse, 0);
            for (int p = 0; p < village.people; p++) {
                inHouse[village.home[p]] |= 1 << p;
            }
            for (int p = 0; p < village.people; p++) {
                known[p] |= inHouse[village.home[p]];
            }
        }

        int of(int person) {
            return known[person] & ~(1 << person);
        }

        boolean isAll(int people) {
            for (int p = 0; p < people; p++) {
                if (known[p] != (1 << people) - 1) {
                    return false;
                }
            }
            return true;
        }

        /** Couples who have not: each is counted from both sides. */
        int strangers(int people) {
            int many = 0;
            for (int p = 0; p < people; p++) {
                many += people - Integer.bitCount(known[p]);
            }
            return many / 2;
        }
    }

    /** Now, and what comes if only EVENINGS go by: kept until something changes, for many calls ask the same. */
    static final class Coming {
        private final Dusk dusk;
        private final Village now;
        private final Village[] rows = new Village[FARTHEST + 1];
        private final int[] gone = new int[FARTHEST + 1];
        private final long[] keys = new long[FARTHEST + 1];
        private final Known known = new Known();
        private int ready = 0;

        Coming(Dusk ofTheVillage, Village village) {
            dusk = ofTheVillage;
            now = village;
            rows[0] = village;
        }

        void changed() {
            ready = 0;
        }

        /** Rows are made when first needed, and kept: most objects never look so far. */
        private Village row(int i) {
            if (rows[i] == null) {
                rows[i] = new Village();
            }
            return rows[i];
        }

        /** The VILLAGE behind so many EVENINGS (0 to 200). */
        Village behind(int evenings) {
            for (int i = ready; i < evenings && i < FARTHEST; i++) {
                Village next = row(i + 1);
                next.copyFrom(row(i));
                gone[i + 1] = dusk.pass(next, 0);
                ready = i + 1;
            }
            return row(evenings);
        }

        /** Behind how many EVENINGS two live in one HOUSE first, or first don't. */
        int firstWith(int person, int other, boolean inOne) {
            for (int i = 0; i <= FAR; i++) {
                if (behind(i).inOne(person, other) == inOne) {
                    return i;
                }
            }
            return NONE;
        }

        int firstGoing(int person) {
            for (int i = 1; i <= FAR; i++) {
                behind(i);
                if ((gone[i] >> person & 1) != 0) {
                    return i;
                }
            }
            return NONE;
        }

        int longestStay(int person) {
            int longest = 0;
            int stay = 0;
            for (int i = 1; i <= FAR; i++) {
                behind(i);
                stay = (gone[i] >> person & 1) != 0 ? 0 : stay + 1;
                longest = Math.max(longest, stay);
            }
            return longest;
        }

        /** Nobody comes into a HOUSE of now, so it is empty when each of those in it has gone once. */
        int firstEmpty(int house) {
            int left = now.dwellers(house);
            for (int i = 1; i <= FAR; i++) {
                behind(i);
                left &= ~gone[i];
                if (left == 0) {
                    return i;
                }
            }
            return NONE;
        }

        /** ROUND: behind how many EVENINGS it begins, or how long it is. */
        int sizesRound(boolean begin) {
            for (int i = 0; i <= FARTHEST; i++) {
                keys[i] = behind(i).sizesKey();
            }
            for (int i = 0; i < FARTHEST; i++) {
                for (int j = i + 1; j <= FARTHEST; j++) {
                    if (keys[i] == keys[j]) {
                        return begin ? i : j - i;
                    }
                }
            }
            return NONE;
        }

        int firstAsNow() {
            for (int i = 1; i <= FARTHEST; i++) {
                if (isAsNow(behind(i))) {
                    return i;
                }
            }
            return NONE;
        }

        private boolean isAsNow(Village then) {
            for (int p = 0; p < then.people; p++) {
                if (then.companions(p) != now.companions(p)) {
                    return false;
                }
            }
            return true;
        }

        Known knownWithin(int evenings) {
            known.clear();
            for (int i = 0; i <= evenings; i++) {
                known.liveTogether(behind(i));
            }
            return known;
        }

        int untilAllKnown() {
            known.clear();
            for (int i = 0; i <= FAR; i++) {
                known.liveTogether(behind(i));
                if (known.isAll(now.people)) {
                    return i;
                }
            }
            return NONE;
        }

        int mostRestless(int evenings) {
            Village then = behind(evenings);
            int whom = NONE;
            int most = 0;
            for (int p = 0; p < then.people; p++) {
                int often = then.moves[p] - now.moves[p];
                if (often > most) {
                    whom = p;
                    most = often;
                }
            }
            return whom;
        }
    }

    /** VILLAGES as they were ahead of each ACT, the latest one last. */
    static final class Acts {
        int many = 0;
        private final Village[] before = new Village[MOST_ACTS];

        /** Rows are made when first needed, and kept: most objects have few ACTS. */
        private Village row(int i) {
            if (before[i] == null) {
                before[i] = new Village();
            }
            return before[i];
        }

        void copyFrom(Acts other) {
            many = other.many;
            for (int i = 0; i < many; i++) {
                row(i).copyFrom(other.row(i));
            }
        }

        void keep(Village now) {
            if (many >= MOST_ACTS) {
                dropFirst();
            }
            row(many).copyFrom(now);
            many++;
        }

        private void dropFirst() {
            Village first = before[0];
            for (int i = 1; i < MOST_ACTS; i++) {
                before[i - 1] = before[i];
            }
            before[MOST_ACTS - 1] = first;
            many = MOST_ACTS - 1;
        }

        void takeBack(Village now) {
            if (many > 0) {
                many--;
                now.copyFrom(row(many));
            }
        }
    }

    /** In a HOUSE of how many one lived behind so many EVENINGS. */
    static final class Seen {
        static final int LATEST = 20;

        int many = 0;
        private final int[] whom = new int[MOST_SEEN];
        private final int[] when = new int[MOST_SEEN];
        private final int[] sizes = new int[MOST_SEEN];

        void copyFrom(Seen other) {
            many = other.many;
            System.arraycopy(other.whom, 0, whom, 0, MOST_SEEN);
            System.arraycopy(other.when, 0, when, 0, MOST_SEEN);
            System.arraycopy(other.sizes, 0, sizes, 0, MOST_SEEN);
        }

        void add(int person, int evenings, int size) {
            if (many < MOST_SEEN) {
                whom[many] = person;
                when[many] = evenings;
                sizes[many] = size;
                many++;
            }
        }

        /** NONE, if nothing is SEEN. */
        int last() {
            int last = NONE;
            for (int i = 0; i < many; i++) {
                last = Math.max(last, when[i]);
            }
            return last;
        }

        boolean fits(Village then, int evenings) {
            for (int i = 0; i < many; i++) {
                if (when[i] == evenings && then.size[then.home[whom[i]]] != sizes[i]) {
                    return false;
                }
            }
            return true;
        }
    }

    /** PARTNERS and HALVES. */
    static final class Pairs {
        private final int[] partner = new int[MOST_PEOPLE];

        int many(Village village) {
            int many = 0;
            for (int h = 0; h < village.houses; h++) {
                many += village.size[h] / 2;
            }
            return many;
        }

        int difference(Village village) {
            int sum = 0;
            for (int h = 0; h < village.houses; h++) {
                sum += least(village, village.dwellers(h));
            }
            return sum;
        }

        int partnerOf(Village village, int person) {
            Arrays.fill(partner, NONE);
            int left = (1 << village.people) - 1;
            for (int p = 0; p < village.people; p++) {
                if ((left >> p & 1) != 0) {
                    int other = firstPartner(village, p, village.dwellers(village.home[p]) & left);
                    left &= ~(1 << p);
                    if (other != NONE) {
                        partner[p] = other;
                        partner[other] = p;
                        left &= ~(1 << other);
                    }
                }
            }
            return partner[person];
        }

        /** The first one with whom the rest of the HOUSE (bits) can still differ least; NONE, if there is none. */
        private static int firstPartner(Village village, int person, int rest) {
            int due = least(village, rest);
            for (int q = person + 1; q < village.people; q++) {
                if ((rest >> q & 1) != 0) {
                    int own = Math.abs(village.rank[person] - village.rank[q]);
                    if (own + least(village, rest & ~(1 << person) & ~(1 << q)) == due) {
                        return q;
                    }
                }
            }
            return NONE;
        }

        /** The least sum of differences of as many couples as can be of a set. */
        private static int least(Village village, int set) {
            if (Integer.bitCount(set) % 2 == 0) {
                return leastOfEven(village, set);
            }
            int least = MORE_THAN_RANKS;
            for (int p = 0; p < village.people; p++) {
                if ((set >> p & 1) != 0) {
                    least = Math.min(least, leastOfEven(village, set & ~(1 << p)));
                }
            }
            return least;
        }

        /**
         * Neighbours by RANK are the best couples: one couple spans the step from a RANK to the next where an odd
         * number is at or below it, none where an even one is.
         */
        private static int leastOfEven(Village village, int set) {
            int oddRanks = 0;
            for (int p = 0; p < village.people; p++) {
                if ((set >> p & 1) != 0) {
                    oddRanks ^= 1 << village.rank[p];
                }
            }
            int sum = 0;
            int odd = 0;
            for (int r = 0; r < MOST_RANK; r++) {
                odd ^= oddRanks >> r & 1;
                sum += odd;
            }
            return sum;
        }

        /** The half with PERSON 0, as bits; sets come by their bits, so the first is the least. */
        int firstHalf(Village village) {
            int best = 0;
            int least = MORE_THAN_RANKS;
            for (int set = 1; set < 1 << village.people; set += 2) {
                int difference = differenceBy(village, set);
                if (difference < least) {
                    best = set;
                    least = difference;
                }
            }
            return best;
        }

        int differenceBy(Village village, int set) {
            int difference = 0;
            for (int p = 0; p < village.people; p++) {
                difference += (set >> p & 1) != 0 ? village.rank[p] : -village.rank[p];
            }
            return Math.abs(difference);
        }
    }

    /** What would be, if something were otherwise now: tried on a VILLAGE of its own. */
    static final class Trials {
        private final Dusk dusk;
        private final Village trial = new Village();
        private final Known known = new Known();
        int rankedMany = 0;
        int rankedFirst = NONE;
        private final int[] unlike = new int[MOST_PEOPLE];
        /** By twice the first one's choice and the other one's. */
        private final int[] gain = new int[4];
        private final int[] otherGain = new int[4];
        private int seed = 0;

        Trials(Dusk ofTheVillage) {
            dusk = ofTheVillage;
        }

        /** TO MEET; 'without': behind how many EVENINGS they meet anyhow. */
        int bestMove(Village now, int person, int other, int without) {
            int answer = NONE;
            int limit = without == NONE ? MEET_WITHIN : Math.min(MEET_WITHIN, without - 1);
            for (int p = 0; p < now.people; p++) {
                for (int h = 0; h < now.houses; h++) {
                    if (limit > 0 && now.home[p] != h) {
                        trial.copyFrom(now);
                        trial.moveTo(p, h);
                        int met = untilMet(person, other, limit);
                        if (met > 0) {
                            answer = 100 * p + h;
                            limit = met - 1;
                        }
                    }
                }
            }
            return answer;
        }

        private int untilMet(int person, int other, int limit) {
            for (int i = 0; i <= limit; i++) {
                if (trial.inOne(person, other)) {
                    return i;
                }
                if (i < limit) {
                    dusk.pass(trial, 0);
                }
            }
            return NONE;
        }

        /** TO JOIN; 'without': behind how many EVENINGS all are known anyhow. */
        int bestJoin(Village now, int without) {
            int answer = NONE;
            int limit = without == NONE ? FAR : without - 1;
            for (int a = 0; a < now.houses; a++) {
                for (int b = 0; b < now.houses; b++) {
                    if (limit >= 0 && a != b) {
                        trial.copyFrom(now);
                        trial.joinTo(a, b);
                        int needed = untilKnown(limit);
                        if (needed != NONE) {
                            answer = 100 * a + b;
                            limit = needed - 1;
                        }
                    }
                }
            }
            return answer;
        }

        private int untilKnown(int limit) {
            known.clear();
            for (int i = 0; i <= limit; i++) {
                known.liveTogether(trial);
                if (known.isAll(trial.people)) {
                    return i;
                }
                if (i < limit) {
                    dusk.pass(trial, 0);
                }
            }
            return NONE;
        }

        boolean isSoWithout(Village now, Seen seen) {
            trial.copyFrom(now);
            return passesAsSeen(seen);
        }

        /** Whether all SEEN is so on the trial's way, which ends behind the last that is SEEN. */
        private boolean passesAsSeen(Seen seen) {
            int last = seen.last();
            for (int i = 0; i <= last; i++) {
                if (!seen.fits(trial, i)) {
                    return false;
                }
                if (i < last) {
                    dusk.pass(trial, 0);
                }
            }
            return true;
        }

        /** RANKED, and, if they are asked for, the sizes of HOUSES in which each would live by these. */
        void tryRanks(Village now, Seen seen, boolean sizesToo) {
            rankedMany = 0;
            rankedFirst = NONE;
            Arrays.fill(unlike, 0);
            for (int p = 0; p < now.people; p++) {
                for (int r = 0; r <= MOST_RANK; r++) {
                    tryWith(now, p, r);
                    if (r != now.rank[p] && passesAsSeen(seen)) {
                        if (rankedMany == 0) {
                            rankedFirst = 10 * p + r;
                        }
                        rankedMany++;
                        if (sizesToo) {
                            tryWith(now, p, r);
                            noteSizes();
                        }
                    }
                }
            }
        }

        private void tryWith(Village now, int person, int rank) {
            trial.copyFrom(now);
            trial.rank[person] = rank;
        }

        private void noteSizes() {
            for (int i = 0; i < LOOK_BEHIND; i++) {
                dusk.pass(trial, 0);
            }
            for (int p = 0; p < trial.people; p++) {
                unlike[p] |= 1 << trial.size[trial.home[p]];
            }
        }

        int unlikeSizes(int person) {
            return Integer.bitCount(unlike[person]);
        }

        int mostUnlike(int people) {
            int whom = NONE;
            int most = 0;
            for (int p = 0; p < people; p++) {
                if (unlikeSizes(p) > most) {
                    whom = p;
                    most = unlikeSizes(p);
                }
            }
            return whom;
        }

        /** Each bit of 'storms' is one EVENING's. */
        int byStorms(Village now, int person, int other, int evenings, int tenths) {
            int sum = 0;
            for (int storms = 0; storms < 1 << evenings; storms++) {
                int weight = 1;
                trial.copyFrom(now);
                for (int i = 0; i < evenings && weight > 0; i++) {
                    if ((storms >> i & 1) != 0) {
                        weight *= tenths;
                        trial.evening++;
                    } else {
                        weight *= 10 - tenths;
                        dusk.pass(trial, 0);
                    }
                }
                if (trial.inOne(person, other)) {
                    sum += weight;
                }
            }
            return sum;
        }

        void play(Village now, Friends friends, int person, int other) {
            for (int couple = 0; couple < 4; couple++) {
                int hides = couple >> 1;
                int otherHides = couple & 1;
                trial.copyFrom(now);
                dusk.pass(trial, hides << person | otherHides << other);
                for (int i = 1; i < GAME_BEHIND; i++) {
                    dusk.pass(trial, 0);
                }
                gain[couple] = gainOf(person, friends) - hides;
                otherGain[couple] = gainOf(other, friends) - otherHides;
            }
        }

        private int gainOf(int person, Friends friends) {
            int companions = trial.companions(person);
            return trial.size[trial.home[person]] + Integer.bitCount(companions & friends.of(person));
        }

        private boolean rests(int couple) {
            return gain[couple] >= gain[couple ^ 2] && otherGain[couple] >= otherGain[couple ^ 1];
        }

        int restsMany() {
            int many = 0;
            for (int couple = 0; couple < 4; couple++) {
                if (rests(couple)) {
                    many++;
                }
            }
            return many;
        }

        int restsFirst() {
            for (int couple = 0; couple < 4; couple++) {
                if (rests(couple)) {
                    return 10 * (couple >> 1) + (couple & 1);
                }
            }
            return NONE;
        }

        int liveYears(Village now, int firstSeed, int evenings, int what) {
            seed = firstSeed;
            trial.copyFrom(now);
            int goers = 0;
            for (int i = 0; i < evenings; i++) {
                befall(draw(6));
                goers += Integer.bitCount(dusk.pass(trial, 0));
            }
            switch (what) {
                case 0: return goers;
                case 1: return trial.houses;
                default: return trial.greatest();
            }
        }

        private void befall(int lot) {
            if (trial.people == 0) {
                return;
            }
            if (lot == 0) {
                int person = draw(trial.people);
                if (!trial.isAlone(person)) {
                    trial.foundBy(person);
                }
            } else if (lot == 1) {
                int person = draw(trial.people);
                trial.rank[person] = draw(MOST_RANK + 1);
            } else if (lot == 2) {
                int house = draw(trial.houses);
                if (house != 0) {
                    trial.joinTo(house, 0);
                }
            }
        }

        private int draw(int many) {
            seed = seed * 1103515245 + 12345;
            return many > 0 ? (seed >>> 16 & 0x7fff) % many : 0;
        }
    }
}
