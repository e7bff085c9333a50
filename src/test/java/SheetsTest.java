/** Promises 21 to 25 and 30: sheets and the fault of the latest call. */
public final class SheetsTest {
    private static final Check CHECK = new Check("SheetsTest");

    public static void main(String[] args) {
        sheet();
        lose();
        put();
        cell();
        copy();
        copyWithin();
        faultStays();
        CHECK.end();
    }

    private static void lost(SillHouse x, String call, long got, int fault) {
        CHECK.due(call, got, SillHouse.LOST);
        CHECK.due(call + ": fault()", x.fault(), fault);
    }

    private static void sheet() {
        SillHouse x = new SillHouse();
        CHECK.refused(x, "no sheet", x.sheet(4, 9, -1), -1);
        CHECK.refused(x, "sheet below", x.sheet(-1, 0, 1), -1);
        CHECK.refused(x, "no lane", x.sheet(0, 3, -1), -2);
        CHECK.refused(x, "lane below", x.sheet(0, -1, 1), -2);
        CHECK.refused(x, "too many", x.sheet(0, 0, 61), -2);
        CHECK.fault(x, "below 0", x.sheet(0, 0, -1), 4);
        CHECK.fault(x, "nothing has come of it", x.put(0, 0, 1), 1);
        CHECK.refused(x, "the most", x.sheet(0, 0, 60), 1);
        CHECK.due("the last cell", x.put(0, 59, 5), 1);
        CHECK.refused(x, "none", x.sheet(1, 2, 0), 1);
        CHECK.fault(x, "no cell", x.put(1, 0, 5), 3);
        CHECK.due("none is not nothing", x.lose(1), 1);
        CHECK.refused(x, "a new row", x.sheet(0, 2, 60), 1);
        CHECK.due("is 0 at first", x.cell(0, 59, 2), 0);
        x.put(0, 0, 9);
        x.sheet(0, 2, 60);
        CHECK.due("from the first cell on", x.cell(0, 0, 2), 0);
        x.put(0, 3, 70000);
        CHECK.fault(x, "no new row", x.sheet(0, 0, Integer.MIN_VALUE), 4);
        CHECK.due("it stays as it was", x.cell(0, 3, 2), 70000);
        x.sheet(0, 2, 2);
        x.sheet(0, 2, 5);
        CHECK.due("0 beyond a short row, too", x.cell(0, 3, 2), 0);
    }

    private static void lose() {
        SillHouse x = new SillHouse();
        CHECK.due("no sheet", x.lose(4), -1);
        CHECK.due("sheet below", x.lose(-1), -1);
        CHECK.due("it had nothing", x.lose(3), 0);
        x.sheet(3, 1, 4);
        x.sheet(2, 1, 4);
        CHECK.due("it had something", x.lose(3), 1);
        CHECK.due("it has nothing", x.lose(3), 0);
        CHECK.fault(x, "nothing there", x.put(3, 0, 1), 1);
        CHECK.due("the other stays", x.put(2, 0, 1), 1);
    }

    private static void put() {
        SillHouse x = new SillHouse();
        for (int lane = 0; lane < 3; lane++) {
            x.sheet(lane, lane, 3);
        }
        CHECK.refused(x, "no sheet", x.put(4, 0, 1), -1);
        CHECK.refused(x, "sheet below", x.put(-1, 0, 1), -1);
        CHECK.fault(x, "nothing", x.put(3, -1, 1), 1);
        CHECK.fault(x, "below", x.put(0, -1, 1), 3);
        CHECK.fault(x, "beyond", x.put(0, 3, 1), 3);
        CHECK.fault(x, "far beyond", x.put(0, Integer.MAX_VALUE, 1), 3);
        CHECK.refused(x, "there", x.put(0, 2, 1), 1);
        int[] values = {128, -129, 255, 256, 32768, -32769, 65535, 70001, Integer.MAX_VALUE, Integer.MIN_VALUE, -1};
        for (int v : values) {
            x.put(0, 1, v);
            x.put(1, 1, v);
            x.put(2, 1, v);
            CHECK.due("as a byte " + v, x.cell(0, 1, 0), (byte) v);
            CHECK.due("as a short " + v, x.cell(1, 1, 1), (short) v);
            CHECK.due("as an int " + v, x.cell(2, 1, 2), v);
        }
        CHECK.due("its neighbour", x.cell(2, 0, 2), 0);
        CHECK.due("its other neighbour", x.cell(2, 2, 2), 0);
    }

    private static void cell() {
        SillHouse x = new SillHouse();
        x.sheet(1, 1, 3);
        x.put(1, 2, -7);
        lost(x, "no sheet", x.cell(4, 9, 9), 0);
        lost(x, "sheet below", x.cell(-1, 0, 0), 0);
        lost(x, "no lane", x.cell(0, 9, 3), 0);
        lost(x, "lane below", x.cell(1, 9, -1), 0);
        lost(x, "too low a lane", x.cell(1, 9, 0), 2);
        lost(x, "too high a lane", x.cell(1, 9, 2), 2);
        lost(x, "nothing is no cast", x.cell(0, 9, 2), 1);
        lost(x, "below", x.cell(1, -1, 1), 3);
        lost(x, "beyond", x.cell(1, 3, 1), 3);
        lost(x, "far beyond", x.cell(1, Integer.MAX_VALUE, 1), 3);
        CHECK.due("there", x.cell(1, 2, 1), -7);
        CHECK.due("no fault", x.fault(), 0);
    }

    private static void copy() {
        SillHouse x = new SillHouse();
        Check.lay(x, 0, 1, 1, 2, 3, 4);
        Check.lay(x, 1, 1, 5, 6);
        x.sheet(2, 2, 4);
        CHECK.refused(x, "no sheet", x.copy(4, 0, 3, 0, 0), -1);
        CHECK.refused(x, "no other", x.copy(3, 0, 4, 0, 0), -1);
        CHECK.refused(x, "sheet below", x.copy(-1, 0, 0, 0, 0), -1);
        CHECK.refused(x, "other below", x.copy(0, 0, -1, 0, 0), -1);
        CHECK.fault(x, "the first has nothing", x.copy(3, -1, 0, 0, 0), 1);
        CHECK.fault(x, "the other has nothing", x.copy(0, -1, 3, 0, 0), 1);
        CHECK.fault(x, "unlike lanes", x.copy(0, -1, 2, 0, 0), 2);
        CHECK.fault(x, "i below", x.copy(0, -1, 1, 0, 0), 3);
        CHECK.fault(x, "j below", x.copy(0, 0, 1, -1, 0), 3);
        CHECK.fault(x, "n below", x.copy(0, 0, 1, 0, -1), 3);
        CHECK.fault(x, "beyond the first", x.copy(0, 3, 1, 0, 2), 3);
        CHECK.fault(x, "beyond the other", x.copy(0, 0, 1, 1, 2), 3);
        CHECK.fault(x, "i beyond, no cells", x.copy(0, 5, 1, 0, 0), 3);
        CHECK.fault(x, "j beyond, no cells", x.copy(0, 0, 1, 3, 0), 3);
        CHECK.fault(x, "far beyond", x.copy(0, 1, 1, 1, Integer.MAX_VALUE), 3);
        CHECK.refused(x, "no sheet after a fault", x.copy(0, 0, 4, 0, 0), -1);
        CHECK.due("nothing has come of it", x.cell(1, 0, 1), 5);
        CHECK.refused(x, "no cells, at the ends", x.copy(0, 4, 1, 2, 0), 0);
        CHECK.refused(x, "two cells", x.copy(0, 2, 1, 0, 2), 2);
        CHECK.due("the first", x.cell(1, 0, 1), 3);
        CHECK.due("the second", x.cell(1, 1, 1), 4);
        CHECK.due("whence they came", x.cell(0, 2, 1), 3);
        CHECK.due("the other way", x.copy(1, 1, 0, 0, 1), 1);
        CHECK.row("the row then", (k, none) -> (int) x.cell(0, k, 1), 4, 2, 3, 4);
    }

    private static void copyWithin() {
        SillHouse x = new SillHouse();
        Check.lay(x, 0, 0, 1, 2, 3, 4, 5);
        CHECK.due("up", x.copy(0, 0, 0, 1, 4), 4);
        CHECK.row("up, as they were", (k, none) -> (int) x.cell(0, k, 0), 1, 1, 2, 3, 4);
        CHECK.due("down", x.copy(0, 2, 0, 0, 3), 3);
        CHECK.row("down, as they were", (k, none) -> (int) x.cell(0, k, 0), 2, 3, 4, 3, 4);
    }

    /** Only calls that name faults change what fault() tells. */
    private static void faultStays() {
        SillHouse x = Check.housed("h2;s0120");
        CHECK.fault(x, "a fault", x.put(3, 0, 0), 1);
        x.person(20, 0);
        x.person(1, 0);
        x.stone(1, 0);
        x.ofDoor(9, 0);
        x.ofPerson(0, 0);
        x.ofStone(0, 0);
        x.take(0, 0);
        x.lay(0, 0);
        x.opens(1, 0);
        x.pass(1, 0);
        x.weigh(0, 20);
        x.fewest(0, 1, -1);
        x.reach(20, 0);
        x.strangers(0, 1, -1);
        x.laid(0, 1, -1);
        x.guest(0, 1);
        x.grows(0, 1, 1);
        x.lose(3);
        x.tell(0);
        x.ring(0);
        x.trace();
        x.many(0);
        CHECK.due("it stays", x.fault(), 1);
        CHECK.due("it is only looked at", x.fault(), 1);
        CHECK.refused(x, "a call that names some", x.put(0, 0, 0), 1);
        CHECK.fault(x, "another", x.sheet(0, 0, -5), 4);
        CHECK.refused(x, "a house", Check.read(x, "h2;s0120"), 1);
        CHECK.fault(x, "another", x.as(0, 1), 2);
        CHECK.refused(x, "a refusal", x.as(1, 1), -1);
        CHECK.fault(x, "another", x.as(0, 2), 2);
        CHECK.due("a cell", x.cell(0, 0, 0), 'h');
        CHECK.due("no fault", x.fault(), 0);
    }
}
