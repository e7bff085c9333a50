/** A house told in a text, whose doors open by weight; the face is told by the document, promise by promise. */
public final class SillHouse {
    public static final int UNKNOWN = -1, OUTSIDE = -2, STATE = -3, FULL = -4, NONE = -9;
    public static final long LOST = Long.MIN_VALUE;

    private static final int FAULT_NULL = 1, FAULT_CAST = 2, FAULT_INDEX = 3, FAULT_SIZE = 4;
    private static final int MOST_DOORS = 8, MOST_PERSONS = 4, MOST_STONES = 4, MOST_CARRIED = 2;
    private static final int SHEETS = 4, MOST_CELLS = 60;
    private static final int LEAST_WEIGHT = 10, GREATEST_WEIGHT = 99, GREATEST_STONE = 20;
    private static final int GREATEST_REACHING = 999, GREATEST_CHANGE = 30, LAST_YEAR = 30, GREATEST_GROWTH = 9;
    private static final int SILL = 0, TWOFOLD = 1, WORN = 2;
    private static final int NOWHERE = -1;

    private final Sheet[] sheets = new Sheet[SHEETS];
    private final Plan plan = new Plan();
    private final Folk folk = new Folk();
    private final Search search = new Search();
    private final Trace left = new Trace();
    private int lastFault;

    public SillHouse() {
        for (int k = 0; k < SHEETS; k++) {
            sheets[k] = new Sheet();
        }
    }

    // ---- 1 the house

    public int house(int sheet, int lane, int i, int n) {
        int refused = cellsRefused(sheet, lane, i, n);
        if (refused != 0) {
            return refused;
        }
        Text text = new Text(sheets[sheet].cells, i, n);
        int firstFault = text.firstFault();
        if (firstFault != Text.NO_FAULT) {
            return -100 - firstFault;
        }
        plan.build(text);
        folk.leave();
        return plan.doorCount;
    }

    public int ofDoor(int d, int what) {
        if (!plan.hasDoor(d)) {
            return UNKNOWN;
        }
        if (what < 0 || what > 7) {
            return OUTSIDE;
        }
        return plan.doors[d].told(what);
    }

    // ---- 2 persons, stones

    public int person(int weight, int room) {
        if (!plan.hasRoom(room)) {
            return UNKNOWN;
        }
        if (!isPersonsWeight(weight)) {
            return OUTSIDE;
        }
        if (folk.persons >= MOST_PERSONS) {
            return FULL;
        }
        return folk.addPerson(weight, room);
    }

    public int stone(int weight, int room) {
        if (!plan.hasRoom(room)) {
            return UNKNOWN;
        }
        if (weight < 1 || weight > GREATEST_STONE) {
            return OUTSIDE;
        }
        if (folk.stones >= MOST_STONES) {
            return FULL;
        }
        return folk.addStone(weight, room);
    }

    public int ofPerson(int p, int what) {
        if (!folk.hasPerson(p)) {
            return UNKNOWN;
        }
        switch (what) {
            case 0:
                return folk.weights[p];
            case 1:
                return folk.rooms[p];
            case 2:
                return folk.carriedBy(p);
            case 3:
                return folk.weightWithStones(p);
            default:
                return OUTSIDE;
        }
    }

    public int ofStone(int s, int what) {
        if (!folk.hasStone(s)) {
            return UNKNOWN;
        }
        if (what < 0 || what > 1) {
            return OUTSIDE;
        }
        return what == 0 ? folk.stoneWeights[s] : folk.stonePlaces[s];
    }

    public int take(int p, int s) {
        if (!folk.hasPerson(p) || !folk.hasStone(s)) {
            return UNKNOWN;
        }
        if (folk.stonePlaces[s] != folk.rooms[p]) {
            return STATE;
        }
        if (folk.howManyCarriedBy(p) >= MOST_CARRIED) {
            return FULL;
        }
        folk.stonePlaces[s] = Folk.placeWith(p);
        return folk.howManyCarriedBy(p);
    }

    public int lay(int p, int s) {
        if (!folk.hasPerson(p) || !folk.hasStone(s)) {
            return UNKNOWN;
        }
        if (folk.stonePlaces[s] != Folk.placeWith(p)) {
            return STATE;
        }
        folk.stonePlaces[s] = folk.rooms[p];
        return folk.howManyCarriedBy(p);
    }

    public int opens(int party, int d) {
        if (!folk.isParty(party)) {
            return OUTSIDE;
        }
        if (!plan.hasDoor(d)) {
            return UNKNOWN;
        }
        int room = folk.roomOfParty(party);
        if (!plan.doors[d].isOf(room)) {
            return STATE;
        }
        return plan.doors[d].beyond(room, folk.weightOfParty(party)) == NOWHERE ? 0 : 1;
    }

    public int pass(int party, int d) {
        int open = opens(party, d);
        if (open < 0) {
            return open;
        }
        if (open == 0) {
            return STATE;
        }
        int room = plan.doors[d].beyond(folk.roomOfParty(party), folk.weightOfParty(party));
        folk.moveParty(party, room);
        return room;
    }

    public int weigh(int p, int weight) {
        if (!folk.hasPerson(p)) {
            return UNKNOWN;
        }
        if (!isPersonsWeight(weight)) {
            return OUTSIDE;
        }
        int before = folk.weights[p];
        folk.weights[p] = weight;
        return before;
    }

    // ---- 3 ways

    public int fewest(int p, int room, int q) {
        if (!folk.hasPerson(p) || !plan.hasRoom(room) || q < -1) {
            return UNKNOWN;
        }
        search.begin(folk.weights[p], folk.rooms[p]);
        for (int s = 0; s < folk.stones; s++) {
            if (folk.stonePlaces[s] == Folk.placeWith(p)) {
                search.setStone(s, folk.stoneWeights[s], Search.CARRIED);
            } else if (plan.hasRoom(folk.stonePlaces[s])) {
                search.setStone(s, folk.stoneWeights[s], folk.stonePlaces[s]);
            }
        }
        if (!search.finds(plan, room)) {
            return NONE;
        }
        return q == -1 ? search.howManySteps() : search.stepAt(q);
    }

    public int reach(int weight, int room) {
        if (!plan.hasRoom(room)) {
            return UNKNOWN;
        }
        if (weight < 1 || weight > GREATEST_REACHING) {
            return OUTSIDE;
        }
        return plan.reachOf(weight, room);
    }

    public int strangers(int from, int to, int k) {
        if (!plan.hasRoom(from) || !plan.hasRoom(to) || k < -1) {
            return UNKNOWN;
        }
        int count = 0;
        for (int weight = LEAST_WEIGHT; weight <= GREATEST_WEIGHT; weight++) {
            if (plan.reaches(weight, from, to)) {
                if (count == k) {
                    return weight;
                }
                count++;
            }
        }
        return k == -1 ? count : NONE;
    }

    // ---- 4 stones to be laid, guests

    public int laid(int p, int room, int q) {
        if (!folk.hasPerson(p) || !plan.hasRoom(room) || q < -1 || q > 1) {
            return UNKNOWN;
        }
        if (folk.carriedBy(p) != 0) {
            return STATE;
        }
        // A weight of 0 stands for no stone; so the pairs come in the order of the rows that they stand for.
        for (int one = 0; one <= GREATEST_STONE; one++) {
            for (int other = one; other <= GREATEST_STONE; other++) {
                if (comesWith(p, room, one, other)) {
                    return ofLaidRow(one, other, q);
                }
            }
        }
        return NONE;
    }

    public int guest(int p, int room) {
        if (!folk.hasPerson(p) || !plan.hasRoom(room)) {
            return UNKNOWN;
        }
        for (int size = 0; size <= GREATEST_CHANGE; size++) {
            if (comesChanged(p, room, -size)) {
                return 100 - size;
            }
            if (comesChanged(p, room, size)) {
                return 100 + size;
            }
        }
        return NONE;
    }

    // ---- 5 what was heard

    public int heard(int sheet, int lane, int i, int n) {
        int refused = doorsRefused(sheet, lane, i, n);
        if (refused != 0) {
            return refused;
        }
        int set = 0;
        for (int p = 0; p < folk.persons; p++) {
            if (passesAll(sheets[sheet].cells, i, n, folk.weightWithStones(p), folk.rooms[p])) {
                set |= 1 << p;
            }
        }
        return set;
    }

    public int byStrangers(int room, int sheet, int lane, int i, int n) {
        lastFault = 0;
        if (!plan.hasRoom(room)) {
            return UNKNOWN;
        }
        int refused = doorsRefused(sheet, lane, i, n);
        if (refused != 0) {
            return refused;
        }
        int count = 0;
        for (int weight = LEAST_WEIGHT; weight <= GREATEST_WEIGHT; weight++) {
            if (passesAll(sheets[sheet].cells, i, n, weight, room)) {
                count++;
            }
        }
        return count;
    }

    public int grows(int p, int g, int room) {
        if (!folk.hasPerson(p) || !plan.hasRoom(room)) {
            return UNKNOWN;
        }
        if (g < 0 || g > GREATEST_GROWTH) {
            return OUTSIDE;
        }
        for (int year = 0; year <= LAST_YEAR; year++) {
            if (!plan.reaches(folk.weights[p] + g * year, folk.rooms[p], room)) {
                return year;
            }
        }
        return NONE;
    }

    // ---- 6 sheets, parts

    public int sheet(int k, int lane, int n) {
        lastFault = 0;
        if (!isSheet(k)) {
            return UNKNOWN;
        }
        if (!isLane(lane) || n > MOST_CELLS) {
            return OUTSIDE;
        }
        if (n < 0) {
            return faulted(FAULT_SIZE);
        }
        sheets[k].renew(lane, n);
        return 1;
    }

    public int lose(int k) {
        if (!isSheet(k)) {
            return UNKNOWN;
        }
        int had = sheets[k].hasNothing() ? 0 : 1;
        sheets[k].empty();
        return had;
    }

    public int put(int k, int i, int v) {
        lastFault = 0;
        if (!isSheet(k)) {
            return UNKNOWN;
        }
        if (sheets[k].hasNothing()) {
            return faulted(FAULT_NULL);
        }
        if (!sheets[k].has(i, 1)) {
            return faulted(FAULT_INDEX);
        }
        sheets[k].cells[i] = sheets[k].cut(v);
        return 1;
    }

    public long cell(int k, int i, int lane) {
        return cellsRefused(k, lane, i, 1) != 0 ? LOST : sheets[k].cells[i];
    }

    public int copy(int k, int i, int other, int j, int n) {
        lastFault = 0;
        if (!isSheet(k) || !isSheet(other)) {
            return UNKNOWN;
        }
        Sheet from = sheets[k];
        Sheet to = sheets[other];
        if (from.hasNothing() || to.hasNothing()) {
            return faulted(FAULT_NULL);
        }
        if (from.lane != to.lane) {
            return faulted(FAULT_CAST);
        }
        if (!from.has(i, n) || !to.has(j, n)) {
            return faulted(FAULT_INDEX);
        }
        System.arraycopy(from.cells, i, to.cells, j, n);
        return n;
    }

    public int tell(int d) {
        return plan.hasDoor(d) ? plan.doors[d].telling(left) : UNKNOWN;
    }

    public int ring(int d) {
        return plan.hasDoor(d) ? plan.doors[d].rung(left, d) : UNKNOWN;
    }

    public int as(int d, int kind) {
        lastFault = 0;
        if (!plan.hasDoor(d)) {
            return UNKNOWN;
        }
        if (kind < SILL || kind > WORN) {
            return OUTSIDE;
        }
        // Each kind is all those before it, too.
        return kind <= plan.doors[d].kind() ? 1 : faulted(FAULT_CAST);
    }

    public int trace() {
        return left.value;
    }

    public int fault() {
        return lastFault;
    }

    public int many(int what) {
        switch (what) {
            case 0:
                return plan.rooms;
            case 1:
                return plan.doorCount;
            case 2:
                return folk.persons;
            case 3:
                return folk.stones;
            default:
                return OUTSIDE;
        }
    }

    // ---- what several calls share

    private static boolean isSheet(int k) {
        return k >= 0 && k < SHEETS;
    }

    private static boolean isLane(int lane) {
        return lane >= Sheet.BYTES && lane <= Sheet.INTS;
    }

    private static boolean isPersonsWeight(int weight) {
        return weight >= LEAST_WEIGHT && weight <= GREATEST_WEIGHT;
    }

    private int faulted(int which) {
        lastFault = which;
        return -10 - which;
    }

    /** The answer to a call that takes n cells of a sheet from i on as a row of a lane but can't; 0 if it can. */
    private int cellsRefused(int k, int lane, int i, int n) {
        lastFault = 0;
        if (!isSheet(k)) {
            return UNKNOWN;
        }
        if (!isLane(lane)) {
            return OUTSIDE;
        }
        if (sheets[k].hasNothing()) {
            return faulted(FAULT_NULL);
        }
        if (sheets[k].lane != lane) {
            return faulted(FAULT_CAST);
        }
        if (n < 0) {
            return faulted(FAULT_SIZE);
        }
        return sheets[k].has(i, n) ? 0 : faulted(FAULT_INDEX);
    }

    /** As cellsRefused, of cells that have to be doors. */
    private int doorsRefused(int k, int lane, int i, int n) {
        int refused = cellsRefused(k, lane, i, n);
        if (refused != 0) {
            return refused;
        }
        for (int at = i; at < i + n; at++) {
            if (!plan.hasDoor(sheets[k].cells[at])) {
                return UNKNOWN;
            }
        }
        return 0;
    }

    /** Whether one of a weight, from a room, can pass the n doors told from i on, one after another. */
    private boolean passesAll(int[] doors, int i, int n, int weight, int room) {
        int at = room;
        for (int k = i; k < i + n && at != NOWHERE; k++) {
            at = plan.doors[doors[k]].beyond(at, weight);
        }
        return at != NOWHERE;
    }

    private boolean comesChanged(int p, int room, int change) {
        int weight = folk.weights[p] + change;
        return weight >= 1 && plan.reaches(weight, folk.rooms[p], room);
    }

    /** Whether a person comes to a room with two new stones, laid where it is; one of weight 0 is none. */
    private boolean comesWith(int p, int room, int one, int other) {
        search.begin(folk.weights[p], folk.rooms[p]);
        if (one > 0) {
            search.setStone(0, one, folk.rooms[p]);
        }
        if (other > 0) {
            search.setStone(1, other, folk.rooms[p]);
        }
        return search.finds(plan, room);
    }

    private static int ofLaidRow(int one, int other, int q) {
        int count = (one > 0 ? 1 : 0) + (other > 0 ? 1 : 0);
        if (q == -1) {
            return count;
        }
        if (q >= count) {
            return NONE;
        }
        return q == 0 && count == 2 ? one : other;
    }

    /** The number that the doors' bodies leave behind. */
    private static final class Trace {
        int value;

        void note(int body) {
            value = 31 * value + body;
        }
    }

    /** A door of the plainest kind; the other kinds ask for other weights, and tell otherwise. */
    private static class Sill {
        static final int SLACK = 2;

        final int first, second, weight;
        final int least, greatest, leastBack, greatestBack;

        Sill(int first, int second, int weight) {
            this(first, second, weight, weight, SLACK);
        }

        Sill(int first, int second, int weight, int weightBack, int slack) {
            this.first = first;
            this.second = second;
            this.weight = weight;
            least = Math.max(0, weight - slack);
            greatest = weight + slack;
            leastBack = Math.max(0, weightBack - slack);
            greatestBack = weightBack + slack;
        }

        int kind() {
            return SILL;
        }

        boolean isOf(int room) {
            return room == first || room == second;
        }

        /** The room to which those in a room come who weigh so much together; NOWHERE, if they can't pass. */
        int beyond(int room, int together) {
            if (room == first) {
                return together >= least && together <= greatest ? second : NOWHERE;
            }
            if (room == second) {
                return together >= leastBack && together <= greatestBack ? first : NOWHERE;
            }
            return NOWHERE;
        }

        int told(int what) {
            switch (what) {
                case 0:
                    return kind();
                case 1:
                    return first;
                case 2:
                    return second;
                case 3:
                    return weight;
                case 4:
                    return least;
                case 5:
                    return greatest;
                case 6:
                    return leastBack;
                default:
                    return greatestBack;
            }
        }

        /** Apart from telling(), since a worn door tells this, too, without what comes between. */
        final int sillsTelling(Trace trace) {
            trace.note(1);
            return weight;
        }

        int telling(Trace trace) {
            return sillsTelling(trace);
        }

        int rung(Trace trace, int number) {
            trace.note(4);
            return number;
        }
    }

    private static class Twofold extends Sill {
        static final int MORE_BACK = 10;

        Twofold(int first, int second, int weight) {
            this(first, second, weight, SLACK);
        }

        Twofold(int first, int second, int weight, int slack) {
            super(first, second, weight, weight + MORE_BACK, slack);
        }

        int kind() {
            return TWOFOLD;
        }

        int telling(Trace trace) {
            trace.note(2);
            return super.telling(trace) + 100;
        }
    }

    private static final class Worn extends Twofold {
        static final int WORN_SLACK = 5;

        Worn(int first, int second, int weight) {
            super(first, second, weight, WORN_SLACK);
        }

        int kind() {
            return WORN;
        }

        int telling(Trace trace) {
            trace.note(3);
            int twofoldsTelling = super.telling(trace);
            return twofoldsTelling + sillsTelling(trace);
        }

        int rung(Trace trace, int number) {
            trace.note(5);
            return 80;
        }
    }

    /** A row of numbers of a lane, or nothing; the cells are made once and used again. */
    private static final class Sheet {
        static final int BYTES = 0, SHORTS = 1, INTS = 2;

        private static final int NO_LANE = -1;

        final int[] cells = new int[MOST_CELLS];
        int lane = NO_LANE;
        private int count;

        boolean hasNothing() {
            return lane == NO_LANE;
        }

        void empty() {
            lane = NO_LANE;
            count = 0;
        }

        void renew(int newLane, int n) {
            lane = newLane;
            count = n;
            for (int i = 0; i < MOST_CELLS; i++) {
                cells[i] = 0;
            }
        }

        boolean has(int i, int n) {
            // The count less i can't overflow as i and n together could.
            return i >= 0 && n >= 0 && i <= count && n <= count - i;
        }

        int cut(int v) {
            if (lane == BYTES) {
                return (byte) v;
            }
            return lane == SHORTS ? (short) v : v;
        }
    }

    /** A text that tells a house, in some cells of a sheet. */
    private static final class Text {
        static final int NO_FAULT = -1;

        private static final int HEAD = 2, DOOR = 6;

        private final int[] cells;
        private final int start, length;

        Text(int[] cells, int start, int length) {
            this.cells = cells;
            this.start = start;
            this.length = length;
        }

        int firstFault() {
            for (int place = 0; place < length; place++) {
                if (!goesOn(place)) {
                    return isNought(place) ? place - 1 : place;
                }
            }
            return length > HEAD && (length - HEAD) % DOOR == 0 ? NO_FAULT : length;
        }

        int rooms() {
            return digit(1);
        }

        int doorCount() {
            return (length - HEAD) / DOOR;
        }

        Sill door(int d) {
            int place = HEAD + DOOR * d;
            int first = digit(place + 2);
            int second = digit(place + 3);
            int weight = 10 * digit(place + 4) + digit(place + 5);
            switch (code(place + 1)) {
                case 's':
                    return new Sill(first, second, weight);
                case 't':
                    return new Twofold(first, second, weight);
                default:
                    return new Worn(first, second, weight);
            }
        }

        private int code(int place) {
            int at = start + place;
            return at >= 0 && at < cells.length ? cells[at] : 0;
        }

        private int digit(int place) {
            return code(place) - '0';
        }

        private boolean isDigit(int place) {
            return code(place) >= '0' && code(place) <= '9';
        }

        private boolean isRoom(int place) {
            return code(place) >= '0' && digit(place) < rooms();
        }

        /** Whether some text goes on with the code of a place, after those before it. */
        private boolean goesOn(int place) {
            if (place == 0) {
                return code(place) == 'h';
            }
            if (place == 1) {
                return code(place) >= '2' && code(place) <= '6';
            }
            switch ((place - HEAD) % DOOR) {
                case 0:
                    return code(place) == ';' && (place - HEAD) / DOOR < MOST_DOORS;
                case 1:
                    return code(place) == 's' || code(place) == 't' || code(place) == 'w';
                case 2:
                    return isRoom(place);
                case 3:
                    return isRoom(place) && code(place) != code(place - 1);
                case 4:
                    return isDigit(place);
                default:
                    return isDigit(place) && !isNought(place);
            }
        }

        /** Whether a weight that is told as 00 ends there. */
        private boolean isNought(int place) {
            return place > HEAD && (place - HEAD) % DOOR == DOOR - 1 && code(place - 1) == '0' && code(place) == '0';
        }
    }

    /** The rooms and the doors between them. */
    private static final class Plan {
        int rooms, doorCount;
        final Sill[] doors = new Sill[MOST_DOORS];

        void build(Text text) {
            rooms = text.rooms();
            doorCount = Math.min(text.doorCount(), MOST_DOORS);
            for (int d = 0; d < doorCount; d++) {
                doors[d] = text.door(d);
            }
        }

        boolean hasRoom(int room) {
            return room >= 0 && room < rooms;
        }

        boolean hasDoor(int d) {
            return d >= 0 && d < doorCount;
        }

        /** All rooms to which one comes with a weight, as a set. */
        int reachOf(int weight, int room) {
            int set = 1 << room;
            // Each round but the last brings a room at least.
            for (int round = 0; round < rooms; round++) {
                int before = set;
                for (int d = 0; d < doorCount; d++) {
                    set |= through(doors[d], doors[d].first, weight, set);
                    set |= through(doors[d], doors[d].second, weight, set);
                }
                if (set == before) {
                    return set;
                }
            }
            return set;
        }

        boolean reaches(int weight, int from, int to) {
            return (reachOf(weight, from) & (1 << to)) != 0;
        }

        private static int through(Sill door, int side, int weight, int set) {
            int beyond = door.beyond(side, weight);
            return (set & (1 << side)) == 0 || beyond == NOWHERE ? 0 : 1 << beyond;
        }
    }

    /** The persons and the stones; a stone's place is its room, or tells who carries it. */
    private static final class Folk {
        int persons, stones;
        final int[] weights = new int[MOST_PERSONS];
        final int[] rooms = new int[MOST_PERSONS];
        final int[] stoneWeights = new int[MOST_STONES];
        final int[] stonePlaces = new int[MOST_STONES];

        static int placeWith(int p) {
            return -20 - p;
        }

        void leave() {
            persons = 0;
            stones = 0;
        }

        boolean hasPerson(int p) {
            return p >= 0 && p < persons;
        }

        boolean hasStone(int s) {
            return s >= 0 && s < stones;
        }

        int addPerson(int weight, int room) {
            weights[persons] = weight;
            rooms[persons] = room;
            return persons++;
        }

        int addStone(int weight, int room) {
            stoneWeights[stones] = weight;
            stonePlaces[stones] = room;
            return stones++;
        }

        int carriedBy(int p) {
            int set = 0;
            for (int s = 0; s < stones; s++) {
                if (stonePlaces[s] == placeWith(p)) {
                    set |= 1 << s;
                }
            }
            return set;
        }

        int howManyCarriedBy(int p) {
            return Integer.bitCount(carriedBy(p));
        }

        int weightWithStones(int p) {
            int together = weights[p];
            for (int s = 0; s < stones; s++) {
                if (stonePlaces[s] == placeWith(p)) {
                    together += stoneWeights[s];
                }
            }
            return together;
        }

        boolean isParty(int party) {
            return party != 0 && party >>> persons == 0;
        }

        /** The room in which all of a party are; NOWHERE, if they are not in one. */
        int roomOfParty(int party) {
            int room = NOWHERE;
            for (int p = 0; p < persons; p++) {
                if ((party & (1 << p)) != 0) {
                    if (room != NOWHERE && room != rooms[p]) {
                        return NOWHERE;
                    }
                    room = rooms[p];
                }
            }
            return room;
        }

        int weightOfParty(int party) {
            int together = 0;
            for (int p = 0; p < persons; p++) {
                if ((party & (1 << p)) != 0) {
                    together += weightWithStones(p);
                }
            }
            return together;
        }

        void moveParty(int party, int room) {
            for (int p = 0; p < persons; p++) {
                if ((party & (1 << p)) != 0) {
                    rooms[p] = room;
                }
            }
        }
    }

    /**
     * The fewest steps of one person. A state is a number: three bits a stone for its place, and above them the room.
     * States are met in the order of the rows of steps that lead to them, for each state is left by the least step
     * first; so the first state in the room that is sought has the first of the fewest.
     */
    private static final class Search {
        static final int CARRIED = 6;

        private static final int ABSENT = 7, PLACE_BITS = 3, PLACE_MASK = 7, ROOM_AT = PLACE_BITS * MOST_STONES;
        private static final int ROOMS = 6, SEEN_BITS = 64, NOT_FOUND = -1;
        private static final int LAYING = 10, PASSING = 20, STEP_BITS = 5, STEP_MASK = 31;
        // Each stone lies in a room or is carried.
        private static final int MOST_STATES = ROOMS * 7 * 7 * 7 * 7;

        private final int[] met = new int[MOST_STATES];
        // Of each state met, where the one before it was met, and the step from that one.
        private final int[] came = new int[MOST_STATES];
        private final long[] seen = new long[(ROOMS << ROOM_AT) / SEEN_BITS];
        private final int[] stoneWeights = new int[MOST_STONES];
        private int weight, start, count, goal, found;

        /** A person without stones. */
        void begin(int personsWeight, int room) {
            weight = personsWeight;
            start = room << ROOM_AT;
            for (int s = 0; s < MOST_STONES; s++) {
                start |= ABSENT << (PLACE_BITS * s);
                stoneWeights[s] = 0;
            }
        }

        void setStone(int s, int itsWeight, int place) {
            stoneWeights[s] = itsWeight;
            start = withPlace(start, s, place);
        }

        boolean finds(Plan plan, int room) {
            goal = room;
            found = NOT_FOUND;
            count = 0;
            meet(start, 0, 0);
            for (int at = 0; at < MOST_STATES && at < count && found == NOT_FOUND; at++) {
                leaveBySteps(plan, at);
            }
            forgetSeen();
            return found != NOT_FOUND;
        }

        int howManySteps() {
            int steps = 0;
            for (int at = found; at > 0 && steps < MOST_STATES; at = came[at] >> STEP_BITS) {
                steps++;
            }
            return steps;
        }

        int stepAt(int q) {
            int steps = howManySteps();
            if (q < 0 || q >= steps) {
                return NONE;
            }
            int at = found;
            for (int k = steps - 1; k > q; k--) {
                at = came[at] >> STEP_BITS;
            }
            return came[at] & STEP_MASK;
        }

        private void leaveBySteps(Plan plan, int at) {
            int state = met[at];
            int room = state >> ROOM_AT;
            int together = weight;
            int carried = 0;
            for (int s = 0; s < MOST_STONES; s++) {
                if (place(state, s) == CARRIED) {
                    together += stoneWeights[s];
                    carried++;
                }
            }
            for (int s = 0; s < MOST_STONES && carried < MOST_CARRIED; s++) {
                if (place(state, s) == room) {
                    meet(withPlace(state, s, CARRIED), at, s);
                }
            }
            for (int s = 0; s < MOST_STONES && carried > 0; s++) {
                if (place(state, s) == CARRIED) {
                    meet(withPlace(state, s, room), at, LAYING + s);
                }
            }
            for (int d = 0; d < plan.doorCount; d++) {
                int beyond = plan.doors[d].beyond(room, together);
                if (beyond != NOWHERE) {
                    meet(state + ((beyond - room) << ROOM_AT), at, PASSING + d);
                }
            }
        }

        private void meet(int state, int before, int step) {
            long bit = 1L << (state % SEEN_BITS);
            if ((seen[state / SEEN_BITS] & bit) != 0 || count >= MOST_STATES) {
                return;
            }
            seen[state / SEEN_BITS] |= bit;
            met[count] = state;
            came[count] = (before << STEP_BITS) | step;
            if (found == NOT_FOUND && (state >> ROOM_AT) == goal) {
                found = count;
            }
            count++;
        }

        /** Only what was met is wiped, for most searches meet few of all the states. */
        private void forgetSeen() {
            for (int at = 0; at < count; at++) {
                seen[met[at] / SEEN_BITS] = 0;
            }
        }

        private static int place(int state, int s) {
            return (state >> (PLACE_BITS * s)) & PLACE_MASK;
        }

        private static int withPlace(int state, int s, int place) {
            int at = PLACE_BITS * s;
            return (state & ~(PLACE_MASK << at)) | (place << at);
        }
    }
}
