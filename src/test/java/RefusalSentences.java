import java.util.function.ToLongFunction;

/** REFUSALS and FAULTS, of the terms and of each promise's line, at the numbers next to those that are taken. */
final class RefusalSentences {
    private static final int UNKNOWN = -1, OUTSIDE = -2, STATE = -3, FULL = -4;
    private static final int NULL = 1, CAST = 2, INDEX = 3, SIZE = 4;
    private static final int LEAST = Integer.MIN_VALUE, MOST = Integer.MAX_VALUE;

    private final Check check;
    private final Doc doc;
    private final String untouched = Scene.seen(Scene.laidOut());

    RefusalSentences(Check check, Doc doc) {
        this.check = check;
        this.doc = doc;
    }

    void run() {
        terms();
        ofHouse();
        ofDoor();
        ofPersons();
        ofStones();
        ofTakingAndLaying();
        ofOpens();
        ofPass();
        ofWeigh();
        ofWays();
        ofLaidAndGuest();
        ofHeard();
        ofByStrangers();
        ofGrows();
        ofSheets();
        ofCells();
        ofCopy();
        ofParts();
        ofMany();
        faultIsOfTheLatest();
    }

    private void terms() {
        doc.says(Doc.TERMS, "REFUSALS: UNKNOWN (there is no such ROOM, DOOR, PERSON, STONE, SHEET, place), OUTSIDE "
                + "(another number is not as told), STATE (as told), FULL;");
        check.due("UNKNOWN", SillHouse.UNKNOWN, UNKNOWN);
        check.due("OUTSIDE", SillHouse.OUTSIDE, OUTSIDE);
        check.due("STATE", SillHouse.STATE, STATE);
        check.due("FULL", SillHouse.FULL, FULL);
        check.due("LOST", SillHouse.LOST, Long.MIN_VALUE);
        doc.says(Doc.TERMS, "NONE is -9.");
        check.due("NONE", SillHouse.NONE, -9);
        doc.says(Doc.TERMS, "of several the first in the order in which a call's line tells them.");
        doc.says(Doc.TERMS, "They change nothing (but fault(), of a call that names FAULTS).");
        doc.says(Doc.TERMS, "FAULTS are the machine's: 1 NULL (there is nothing), 2 CAST (it is of another LANE, kind), "
                + "3 INDEX (of cells from i on also where i is not 0 .. how many there are, if none of them is taken, "
                + "too), 4 SIZE (a length below 0).");
        doc.says(Doc.TERMS, "Of a call the first that is come to, in the order told; it answers -10 less it (LOST, where "
                + "a long is answered, as for refusals) and changes nothing; fault() tells it.");
        check.due("the fault that stands ahead of each call", Scene.laidOut().fault(), SIZE);
    }

    /** A call that names no faults is refused. */
    private void refused(String call, int due, ToLongFunction<SillHouse> made) {
        changesNothing(call, due, SIZE, made);
    }

    /** A call that names faults is refused. */
    private void refusedOfFaulty(String call, long due, ToLongFunction<SillHouse> made) {
        changesNothing(call, due, 0, made);
    }

    private void faulted(String call, int which, ToLongFunction<SillHouse> made) {
        changesNothing(call, -10 - which, which, made);
    }

    private void lost(String call, int which, ToLongFunction<SillHouse> made) {
        changesNothing(call, SillHouse.LOST, which, made);
    }

    private void changesNothing(String call, long due, int fault, ToLongFunction<SillHouse> made) {
        SillHouse x = Scene.laidOut();
        check.due(call, made.applyAsLong(x), due);
        check.due(call + ": fault()", x.fault(), fault);
        check.due(call + " changes nothing", Scene.seen(x).equals(untouched) ? 1 : 0, 1);
    }

    // ---- 1

    private void ofHouse() {
        doc.says(2, "UNKNOWN; OUTSIDE: lane; CAST (nothing is no CAST); NULL; SIZE: n below 0; INDEX; -100 less it.");
        for (int k : new int[] {LEAST, -1, 4, MOST}) {
            refusedOfFaulty("house of sheet " + k, UNKNOWN, x -> x.house(k, 0, 0, Scene.CELLS));
        }
        refusedOfFaulty("house of no sheet, no lane", UNKNOWN, x -> x.house(4, 3, -1, -1));
        for (int lane : new int[] {LEAST, -1, 3, MOST}) {
            refusedOfFaulty("house in lane " + lane, OUTSIDE, x -> x.house(0, lane, 0, Scene.CELLS));
            refusedOfFaulty("house of nothing in lane " + lane, OUTSIDE, x -> x.house(3, lane, -1, -1));
        }
        refusedOfFaulty("house of no text", -100, x -> x.house(1, 1, 0, 6));
        refusedOfFaulty("house of no cells, at the end", -100, x -> x.house(0, 0, Scene.CELLS, 0));
        refusedOfFaulty("house of no cells, at the beginning", -100, x -> x.house(0, 0, 0, 0));
        refusedOfFaulty("house of too few cells", -100 - 19, x -> x.house(0, 0, 0, 19));
        faultsOfCells("house", 0, Scene.CELLS, (x, cells) -> x.house(cells[0], cells[1], cells[2], cells[3]));
    }

    private interface OfCells {
        int made(SillHouse x, int[] cells);
    }

    /** The faults of a call that takes cells, of sheet k, which has so many, in the lane of its number. */
    private void faultsOfCells(String call, int k, int count, OfCells made) {
        for (int[] cells : new int[][] {{0, 1, 0, 1}, {0, 2, 0, 1}, {1, 0, 0, 1}, {1, 2, 0, 1}, {2, 0, 0, 1}, {2, 1, 0, 1},
            {0, 1, 0, -1}, {0, 1, -1, 1}, {1, 0, 99, -1}}) {
            faulted(call + " in another lane", CAST, x -> made.made(x, cells));
        }
        for (int[] cells : new int[][] {{3, 0, 0, 1}, {3, 1, 0, 1}, {3, 2, 0, 1}, {3, 0, 0, 0}, {3, 0, 0, -1}, {3, 1, -1, 1}}) {
            faulted(call + " of nothing", NULL, x -> made.made(x, cells));
        }
        for (int[] cells : new int[][] {{k, k, 0, -1}, {k, k, 0, LEAST}, {k, k, -1, -1}, {k, k, count + 1, -1}}) {
            faulted(call + " of n below 0", SIZE, x -> made.made(x, cells));
        }
        for (int[] cells : new int[][] {{k, k, -1, 0}, {k, k, count + 1, 0}, {k, k, -1, 1}, {k, k, count, 1}, {k, k, 0, count + 1},
            {k, k, 1, count}, {k, k, LEAST, 0}, {k, k, MOST, 0}, {k, k, 1, MOST}, {k, k, MOST, 1}, {k, k, LEAST, MOST}}) {
            faulted(call + " beside its cells", INDEX, x -> made.made(x, cells));
        }
    }

    private void ofDoor() {
        doc.says(3, "UNKNOWN; OUTSIDE.");
        for (int d : new int[] {LEAST, -1, 3, 8, MOST}) {
            refused("ofDoor " + d, UNKNOWN, x -> x.ofDoor(d, 0));
            refused("ofDoor, nothing, " + d, UNKNOWN, x -> x.ofDoor(d, 8));
        }
        for (int what : new int[] {LEAST, -1, 8, MOST}) {
            refused("ofDoor, what " + what, OUTSIDE, x -> x.ofDoor(2, what));
        }
    }

    // ---- 2

    private void ofPersons() {
        doc.says(4, "UNKNOWN: ROOM; OUTSIDE: weight; FULL.");
        doc.says(6, "UNKNOWN; OUTSIDE.");
        for (int room : new int[] {LEAST, -1, 3, MOST}) {
            refused("person in room " + room, UNKNOWN, x -> x.person(50, room));
            refused("person, too light, in room " + room, UNKNOWN, x -> x.person(9, room));
        }
        for (int weight : new int[] {LEAST, -1, 0, 9, 100, MOST}) {
            refused("person of " + weight, OUTSIDE, x -> x.person(weight, 0));
        }
        refused("a fifth person", FULL, x -> x.person(10, 0));
        refused("a fifth person, heavy", FULL, x -> x.person(99, 2));
        for (int p : new int[] {LEAST, -1, 4, MOST}) {
            refused("ofPerson " + p, UNKNOWN, x -> x.ofPerson(p, 0));
            refused("ofPerson, nothing, " + p, UNKNOWN, x -> x.ofPerson(p, 4));
        }
        for (int what : new int[] {LEAST, -1, 4, MOST}) {
            refused("ofPerson, what " + what, OUTSIDE, x -> x.ofPerson(0, what));
        }
    }

    private void ofStones() {
        doc.says(5, "UNKNOWN: ROOM; OUTSIDE: weight; FULL.");
        doc.says(7, "UNKNOWN; OUTSIDE.");
        for (int room : new int[] {LEAST, -1, 3, MOST}) {
            refused("stone in room " + room, UNKNOWN, x -> x.stone(5, room));
            refused("stone, too light, in room " + room, UNKNOWN, x -> x.stone(0, room));
        }
        for (int weight : new int[] {LEAST, -1, 0, 21, MOST}) {
            refused("stone of " + weight, OUTSIDE, x -> x.stone(weight, 0));
        }
        refused("a fifth stone", FULL, x -> x.stone(1, 0));
        refused("a fifth stone, heavy", FULL, x -> x.stone(20, 2));
        for (int s : new int[] {LEAST, -1, 4, MOST}) {
            refused("ofStone " + s, UNKNOWN, x -> x.ofStone(s, 0));
            refused("ofStone, nothing, " + s, UNKNOWN, x -> x.ofStone(s, 2));
        }
        for (int what : new int[] {LEAST, -1, 2, MOST}) {
            refused("ofStone, what " + what, OUTSIDE, x -> x.ofStone(0, what));
        }
    }

    private void ofTakingAndLaying() {
        doc.says(8, "UNKNOWN; STATE: it does not lie there; FULL: it CARRIES 2.");
        doc.says(9, "UNKNOWN; STATE: it does not CARRY it.");
        for (int k : new int[] {LEAST, -1, 4, MOST}) {
            refused("take by " + k, UNKNOWN, x -> x.take(k, 2));
            refused("take of " + k, UNKNOWN, x -> x.take(1, k));
            refused("take of " + k + " by one with two", UNKNOWN, x -> x.take(0, k));
            refused("lay by " + k, UNKNOWN, x -> x.lay(k, 0));
            refused("lay of " + k, UNKNOWN, x -> x.lay(0, k));
        }
        refused("take elsewhere", STATE, x -> x.take(2, 2));
        refused("take what another carries", STATE, x -> x.take(1, 0));
        refused("take what it carries, and carries two", STATE, x -> x.take(0, 1));
        refused("take a third", FULL, x -> x.take(0, 2));
        refused("take another third", FULL, x -> x.take(0, 3));
        refused("lay what another carries", STATE, x -> x.lay(1, 0));
        refused("lay what lies there", STATE, x -> x.lay(0, 2));
        refused("lay what lies elsewhere", STATE, x -> x.lay(3, 2));
    }

    private void ofOpens() {
        doc.says(10, "OUTSIDE: a bit of none, none; UNKNOWN: DOOR; STATE: they are not in one ROOM, or that ROOM has not "
                + "that DOOR.");
        for (int party : new int[] {0, 16, 17, -1, LEAST, LEAST + 1, MOST, 1 << 30}) {
            refused("opens for " + party, OUTSIDE, x -> x.opens(party, 0));
            refused("opens no door for " + party, OUTSIDE, x -> x.opens(party, 3));
        }
        for (int d : new int[] {LEAST, -1, 3, MOST}) {
            refused("opens " + d, UNKNOWN, x -> x.opens(1, d));
            refused("opens " + d + " for those apart", UNKNOWN, x -> x.opens(15, d));
        }
        for (int party : new int[] {5, 9, 6, 7, 12, 15}) {
            refused("opens for those apart, " + party, STATE, x -> x.opens(party, 0));
        }
        refused("opens a door elsewhere", STATE, x -> x.opens(3, 1));
        refused("opens the first door elsewhere", STATE, x -> x.opens(8, 0));
        refused("opens the last door elsewhere", STATE, x -> x.opens(4, 2));
    }

    private void ofPass() {
        doc.says(11, "OUTSIDE: a bit of none, none; UNKNOWN: DOOR; STATE: as for opens(), or it does not OPEN.");
        for (int party : new int[] {0, 16, 17, -1, LEAST, LEAST + 1, MOST, 1 << 30}) {
            refused("pass by " + party, OUTSIDE, x -> x.pass(party, 0));
            refused("pass no door by " + party, OUTSIDE, x -> x.pass(party, 3));
        }
        for (int d : new int[] {LEAST, -1, 3, MOST}) {
            refused("pass " + d, UNKNOWN, x -> x.pass(1, d));
            refused("pass " + d + " by those apart", UNKNOWN, x -> x.pass(15, d));
        }
        refused("pass by those apart", STATE, x -> x.pass(5, 0));
        refused("pass a door elsewhere", STATE, x -> x.pass(3, 1));
        refused("pass with what it carries", STATE, x -> x.pass(1, 0));
        refused("pass, too light", STATE, x -> x.pass(2, 0));
        refused("pass, too heavy together", STATE, x -> x.pass(3, 0));
        refused("pass, too heavy", STATE, x -> x.pass(8, 1));
    }

    private void ofWeigh() {
        doc.says(12, "UNKNOWN; OUTSIDE.");
        for (int p : new int[] {LEAST, -1, 4, MOST}) {
            refused("weigh " + p, UNKNOWN, x -> x.weigh(p, 50));
            refused("weigh " + p + ", too light", UNKNOWN, x -> x.weigh(p, 9));
        }
        for (int weight : new int[] {LEAST, -1, 0, 9, 100, MOST}) {
            refused("weigh as " + weight, OUTSIDE, x -> x.weigh(0, weight));
        }
    }

    // ---- 3 to 5

    private void ofWays() {
        doc.says(13, "UNKNOWN: PERSON, ROOM, q below -1.");
        doc.says(14, "UNKNOWN: ROOM; OUTSIDE: weight (1 .. 999).");
        doc.says(15, "UNKNOWN: ROOMS, k below -1.");
        for (int p : new int[] {LEAST, -1, 4, MOST}) {
            refused("fewest of " + p, UNKNOWN, x -> x.fewest(p, 0, -1));
        }
        for (int room : new int[] {LEAST, -1, 3, MOST}) {
            refused("fewest to " + room, UNKNOWN, x -> x.fewest(0, room, -1));
            refused("reach from " + room, UNKNOWN, x -> x.reach(50, room));
            refused("reach, too light, from " + room, UNKNOWN, x -> x.reach(0, room));
            refused("strangers from " + room, UNKNOWN, x -> x.strangers(room, 0, -1));
            refused("strangers to " + room, UNKNOWN, x -> x.strangers(0, room, -1));
        }
        for (int below : new int[] {LEAST, -3, -2}) {
            refused("fewest, q " + below, UNKNOWN, x -> x.fewest(0, 0, below));
            refused("strangers, k " + below, UNKNOWN, x -> x.strangers(0, 0, below));
        }
        for (int weight : new int[] {LEAST, -1, 0, 1000, MOST}) {
            refused("reach of " + weight, OUTSIDE, x -> x.reach(weight, 0));
        }
    }

    private void ofLaidAndGuest() {
        doc.says(16, "UNKNOWN: PERSON, ROOM, q is not -1 .. 1; STATE: it CARRIES something.");
        doc.says(17, "UNKNOWN: PERSON, ROOM.");
        for (int p : new int[] {LEAST, -1, 4, MOST}) {
            refused("laid for " + p, UNKNOWN, x -> x.laid(p, 0, -1));
            refused("guest " + p, UNKNOWN, x -> x.guest(p, 0));
        }
        for (int room : new int[] {LEAST, -1, 3, MOST}) {
            refused("laid to " + room, UNKNOWN, x -> x.laid(1, room, -1));
            refused("laid to " + room + " by one that carries", UNKNOWN, x -> x.laid(0, room, -1));
            refused("guest to " + room, UNKNOWN, x -> x.guest(0, room));
        }
        for (int q : new int[] {LEAST, -3, -2, 2, 3, MOST}) {
            refused("laid, q " + q, UNKNOWN, x -> x.laid(1, 0, q));
            refused("laid, q " + q + " by one that carries", UNKNOWN, x -> x.laid(0, 0, q));
        }
        for (int q = -1; q < 2; q++) {
            int asked = q;
            refused("laid by one that carries", STATE, x -> x.laid(0, 0, asked));
        }
    }

    private void ofHeard() {
        doc.says(18, "UNKNOWN: SHEET; OUTSIDE: lane; CAST; NULL; SIZE; INDEX; UNKNOWN: a DOOR.");
        for (int k : new int[] {LEAST, -1, 4, MOST}) {
            refusedOfFaulty("heard of sheet " + k, UNKNOWN, x -> x.heard(k, 1, 0, 4));
            refusedOfFaulty("heard of sheet " + k + ", no lane", UNKNOWN, x -> x.heard(k, 3, 0, 4));
        }
        for (int lane : new int[] {LEAST, -1, 3, MOST}) {
            refusedOfFaulty("heard in lane " + lane, OUTSIDE, x -> x.heard(1, lane, 0, 4));
            refusedOfFaulty("heard of nothing in lane " + lane, OUTSIDE, x -> x.heard(3, lane, -1, -1));
        }
        faultsOfCells("heard", 1, 6, (x, cells) -> x.heard(cells[0], cells[1], cells[2], cells[3]));
        for (int[] cells : new int[][] {{4, 1}, {5, 1}, {0, 5}, {0, 6}, {4, 2}}) {
            refusedOfFaulty("heard, a door that is none", UNKNOWN, x -> x.heard(1, 1, cells[0], cells[1]));
        }
        refusedOfFaulty("heard, the first door is none", UNKNOWN, x -> x.heard(2, 2, 0, 1));
        refusedOfFaulty("heard, one beyond the last door", UNKNOWN, x -> x.heard(2, 2, 3, 1));
    }

    private void ofByStrangers() {
        doc.says(19, "UNKNOWN: ROOM, SHEET; OUTSIDE: lane; CAST; NULL; SIZE; INDEX; UNKNOWN: a DOOR.");
        for (int room : new int[] {LEAST, -1, 3, MOST}) {
            refusedOfFaulty("byStrangers from " + room, UNKNOWN, x -> x.byStrangers(room, 1, 1, 0, 4));
            refusedOfFaulty("byStrangers from " + room + ", no lane", UNKNOWN, x -> x.byStrangers(room, 1, 3, 0, 4));
            refusedOfFaulty("byStrangers from " + room + ", nothing", UNKNOWN, x -> x.byStrangers(room, 3, 0, 0, 0));
        }
        for (int k : new int[] {LEAST, -1, 4, MOST}) {
            refusedOfFaulty("byStrangers of sheet " + k, UNKNOWN, x -> x.byStrangers(0, k, 1, 0, 4));
            refusedOfFaulty("byStrangers of sheet " + k + ", no lane", UNKNOWN, x -> x.byStrangers(0, k, -1, 0, 4));
        }
        for (int lane : new int[] {LEAST, -1, 3, MOST}) {
            refusedOfFaulty("byStrangers in lane " + lane, OUTSIDE, x -> x.byStrangers(0, 1, lane, 0, 4));
            refusedOfFaulty("byStrangers of nothing in lane " + lane, OUTSIDE, x -> x.byStrangers(0, 3, lane, -1, -1));
        }
        faultsOfCells("byStrangers", 1, 6, (x, cells) -> x.byStrangers(2, cells[0], cells[1], cells[2], cells[3]));
        for (int[] cells : new int[][] {{4, 1}, {5, 1}, {0, 5}, {0, 6}, {4, 2}}) {
            refusedOfFaulty("byStrangers, a door that is none", UNKNOWN, x -> x.byStrangers(0, 1, 1, cells[0], cells[1]));
        }
    }

    private void ofGrows() {
        doc.says(20, "UNKNOWN: PERSON, ROOM; OUTSIDE: g.");
        for (int p : new int[] {LEAST, -1, 4, MOST}) {
            refused("grows " + p, UNKNOWN, x -> x.grows(p, 1, 0));
            refused("grows " + p + ", too fast", UNKNOWN, x -> x.grows(p, 10, 0));
        }
        for (int room : new int[] {LEAST, -1, 3, MOST}) {
            refused("grows for " + room, UNKNOWN, x -> x.grows(0, 1, room));
            refused("grows, too fast, for " + room, UNKNOWN, x -> x.grows(0, 10, room));
        }
        for (int g : new int[] {LEAST, -1, 10, MOST}) {
            refused("grows by " + g, OUTSIDE, x -> x.grows(0, g, 0));
        }
    }

    // ---- 6

    private void ofSheets() {
        doc.says(21, "UNKNOWN; OUTSIDE: lane, n above 60; SIZE.");
        doc.says(22, "UNKNOWN.");
        for (int k : new int[] {LEAST, -1, 4, MOST}) {
            refusedOfFaulty("sheet " + k, UNKNOWN, x -> x.sheet(k, 0, 1));
            refusedOfFaulty("sheet " + k + ", no lane", UNKNOWN, x -> x.sheet(k, 3, 61));
            refusedOfFaulty("sheet " + k + ", below 0", UNKNOWN, x -> x.sheet(k, 0, -1));
            refused("lose " + k, UNKNOWN, x -> x.lose(k));
        }
        for (int lane : new int[] {LEAST, -1, 3, MOST}) {
            refusedOfFaulty("sheet in lane " + lane, OUTSIDE, x -> x.sheet(0, lane, 1));
            refusedOfFaulty("sheet in lane " + lane + ", below 0", OUTSIDE, x -> x.sheet(0, lane, -1));
        }
        for (int n : new int[] {61, 62, MOST}) {
            refusedOfFaulty("sheet of " + n, OUTSIDE, x -> x.sheet(0, 0, n));
            refusedOfFaulty("sheet of " + n + ", that had nothing", OUTSIDE, x -> x.sheet(3, 0, n));
        }
        for (int n : new int[] {-1, -2, -61, LEAST}) {
            faulted("sheet of " + n, SIZE, x -> x.sheet(0, 0, n));
            faulted("sheet of " + n + ", that had nothing", SIZE, x -> x.sheet(3, 2, n));
        }
    }

    private void ofCells() {
        doc.says(23, "UNKNOWN; NULL; INDEX.");
        doc.says(24, "LOST: UNKNOWN, OUTSIDE: lane; FAULTS CAST (nothing is no CAST), NULL, INDEX.");
        for (int k : new int[] {LEAST, -1, 4, MOST}) {
            refusedOfFaulty("put on sheet " + k, UNKNOWN, x -> x.put(k, -1, 7));
            refusedOfFaulty("cell of sheet " + k, SillHouse.LOST, x -> x.cell(k, 0, 0));
        }
        for (int lane : new int[] {LEAST, -1, 3, MOST}) {
            refusedOfFaulty("cell in lane " + lane, SillHouse.LOST, x -> x.cell(0, 0, lane));
            refusedOfFaulty("cell of nothing in lane " + lane, SillHouse.LOST, x -> x.cell(3, -1, lane));
        }
        for (int[] at : new int[][] {{0, 1}, {0, 2}, {1, 0}, {1, 2}, {2, 0}, {2, 1}}) {
            lost("cell in another lane", CAST, x -> x.cell(at[0], 0, at[1]));
            lost("cell beside, in another lane", CAST, x -> x.cell(at[0], 60, at[1]));
        }
        for (int i : new int[] {LEAST, -1, 0, 60, MOST}) {
            faulted("put on nothing at " + i, NULL, x -> x.put(3, i, 7));
            for (int lane = 0; lane < 3; lane++) {
                int as = lane;
                lost("cell of nothing at " + i, NULL, x -> x.cell(3, i, as));
            }
        }
        for (int[] at : new int[][] {{0, -1}, {0, Scene.CELLS}, {1, 6}, {2, 4}, {2, 5}, {0, LEAST}, {0, MOST}}) {
            faulted("put beside", INDEX, x -> x.put(at[0], at[1], 7));
            lost("cell beside", INDEX, x -> x.cell(at[0], at[1], at[0]));
        }
    }

    private void ofCopy() {
        doc.says(25, "UNKNOWN; FAULTS NULL (the first, the other), CAST (unlike LANES), INDEX: i, j, n below 0 or beyond.");
        for (int k : new int[] {LEAST, -1, 4, MOST}) {
            refusedOfFaulty("copy of sheet " + k, UNKNOWN, x -> x.copy(k, 0, 0, 0, 1));
            refusedOfFaulty("copy to sheet " + k, UNKNOWN, x -> x.copy(0, 0, k, 0, 1));
            refusedOfFaulty("copy of nothing to sheet " + k, UNKNOWN, x -> x.copy(3, -1, k, -1, -1));
        }
        faulted("copy of nothing", NULL, x -> x.copy(3, -1, 0, -1, -1));
        faulted("copy to nothing", NULL, x -> x.copy(0, -1, 3, -1, -1));
        faulted("copy of nothing to nothing", NULL, x -> x.copy(3, 0, 3, 0, 0));
        for (int[] lanes : new int[][] {{0, 1}, {0, 2}, {1, 0}, {1, 2}, {2, 0}, {2, 1}}) {
            faulted("copy to another lane", CAST, x -> x.copy(lanes[0], 0, lanes[1], 0, 1));
            faulted("copy of none to another lane", CAST, x -> x.copy(lanes[0], 0, lanes[1], 0, 0));
            faulted("copy beside to another lane", CAST, x -> x.copy(lanes[0], -1, lanes[1], 99, -1));
        }
        for (int[] at : new int[][] {{-1, 0, 1}, {0, -1, 1}, {0, 0, -1}, {-1, 0, 0}, {0, -1, 0}, {7, 0, 0}, {0, 7, 0}, {6, 0, 1},
            {0, 6, 1}, {0, 0, 7}, {1, 0, 6}, {0, 1, 6}, {LEAST, 0, 1}, {0, LEAST, 1}, {0, 0, LEAST}, {MOST, 0, 1},
            {0, MOST, 1}, {0, 0, MOST}, {1, 1, MOST}, {MOST, MOST, MOST}, {6, 6, MOST}}) {
            faulted("copy beside", INDEX, x -> x.copy(1, at[0], 1, at[1], at[2]));
        }
    }

    private void ofParts() {
        doc.says(26, "UNKNOWN.");
        doc.says(27, "UNKNOWN.");
        doc.says(28, "UNKNOWN; OUTSIDE; CAST: it is none.");
        for (int d : new int[] {LEAST, -1, 3, 8, MOST}) {
            refused("tell " + d, UNKNOWN, x -> x.tell(d));
            refused("ring " + d, UNKNOWN, x -> x.ring(d));
            refusedOfFaulty("as of " + d, UNKNOWN, x -> x.as(d, 0));
            refusedOfFaulty("as of " + d + ", no kind", UNKNOWN, x -> x.as(d, 3));
        }
        for (int kind : new int[] {LEAST, -1, 3, MOST}) {
            refusedOfFaulty("as " + kind, OUTSIDE, x -> x.as(2, kind));
        }
        faulted("a sill as a twofold", CAST, x -> x.as(0, 1));
        faulted("a sill as a worn one", CAST, x -> x.as(0, 2));
        faulted("a twofold as a worn one", CAST, x -> x.as(1, 2));
    }

    private void ofMany() {
        doc.says(31, "OUTSIDE.");
        for (int what : new int[] {LEAST, -1, 4, MOST}) {
            refused("many " + what, OUTSIDE, x -> x.many(what));
        }
    }

    private void faultIsOfTheLatest() {
        doc.says(30, "The FAULT of the latest call that names one: 0: it came to none, or was refused (0 ahead of any).");
        check.due("ahead of any", new SillHouse().fault(), 0);
        keeps("house", x -> x.house(0, 0, 0, Scene.CELLS), 3, 0);
        keeps("heard", x -> x.heard(1, 1, 0, 0), 15, 0);
        keeps("byStrangers", x -> x.byStrangers(0, 1, 1, 0, 0), 90, 0);
        keeps("sheet", x -> x.sheet(0, 0, 0), 1, 0);
        keeps("put", x -> x.put(0, 0, 0), 1, 0);
        keeps("cell", x -> x.cell(0, 0, 0), 'h', 0);
        keeps("copy", x -> x.copy(0, 0, 0, 0, 0), 0, 0);
        keeps("as", x -> x.as(0, 0), 1, 0);
        keeps("ofDoor", x -> x.ofDoor(0, 0), 0, SIZE);
        keeps("ofPerson", x -> x.ofPerson(0, 0), 30, SIZE);
        keeps("ofStone", x -> x.ofStone(0, 0), 10, SIZE);
        keeps("take", x -> x.take(1, 2), 1, SIZE);
        keeps("lay", x -> x.lay(0, 0), 1, SIZE);
        keeps("opens", x -> x.opens(1, 0), 0, SIZE);
        keeps("pass", x -> x.pass(4, 1), 2, SIZE);
        keeps("weigh", x -> x.weigh(0, 50), 30, SIZE);
        keeps("fewest", x -> x.fewest(0, 0, -1), 0, SIZE);
        keeps("reach", x -> x.reach(30, 0), 3, SIZE);
        keeps("strangers", x -> x.strangers(0, 0, -1), 90, SIZE);
        keeps("laid", x -> x.laid(1, 0, -1), 0, SIZE);
        keeps("guest", x -> x.guest(0, 0), 100, SIZE);
        keeps("grows", x -> x.grows(0, 0, 0), -9, SIZE);
        keeps("lose", x -> x.lose(0), 1, SIZE);
        keeps("lose of nothing", x -> x.lose(3), 0, SIZE);
        keeps("tell", x -> x.tell(0), 30, SIZE);
        keeps("ring", x -> x.ring(2), 80, SIZE);
        keeps("many", x -> x.many(0), 3, SIZE);
        keeps("fault", x -> x.fault(), SIZE, SIZE);
        keeps("trace", x -> x.trace(), ((3 * 31 + 2) * 31 + 1) * 31 + 1, SIZE);
        SillHouse full = Check.housed(Scene.TEXT);
        full.put(3, 0, 0);
        check.due("person", full.person(50, 0), 0);
        check.due("stone", full.stone(5, 0), 0);
        check.due("both keep the fault", full.fault(), NULL);
    }

    private void keeps(String call, ToLongFunction<SillHouse> made, long due, int fault) {
        SillHouse x = Scene.laidOut();
        check.due(call, made.applyAsLong(x), due);
        check.due(call + " is taken: fault()", x.fault(), fault);
    }
}
