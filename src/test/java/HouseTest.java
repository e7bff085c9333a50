/** Promises 1 to 3 and 31: a new object, houses by texts, doors, how many there are. */
public final class HouseTest {
    private static final Check CHECK = new Check("HouseTest");
    private static final String EIGHT = "h2;s0101;s0102;s0103;s0104;s0105;s0106;s0107;s0108";

    public static void main(String[] args) {
        newObject();
        houseTaken();
        houseFirstFaults();
        houseRefusedAndFaults();
        houseMakesAnew();
        houseKeepsWhatStands();
        doors();
        howMany();
        CHECK.end();
    }

    private static void newObject() {
        SillHouse x = new SillHouse();
        CHECK.row("many", (k, none) -> x.many(k), 0, 0, 0, 0);
        CHECK.due("ofDoor", x.ofDoor(0, 0), -1);
        CHECK.due("person", x.person(10, 0), -1);
        CHECK.due("stone", x.stone(1, 0), -1);
        CHECK.due("fault", x.fault(), 0);
        CHECK.due("trace", x.trace(), 0);
        for (int k = 0; k < 4; k++) {
            CHECK.due("lose " + k, x.lose(k), 0);
            CHECK.fault(x, "put " + k, x.put(k, 0, 0), 1);
        }
    }

    private static void houseTaken() {
        CHECK.due("one door", Check.read(new SillHouse(), "h2;s0110"), 1);
        CHECK.due("eight doors", Check.read(new SillHouse(), EIGHT), 8);
        CHECK.due("weight 01", Check.read(new SillHouse(), "h2;s0101"), 1);
        CHECK.due("weight 99", Check.read(new SillHouse(), "h6;w5499"), 1);
        CHECK.due("weight 10", Check.read(new SillHouse(), "h6;t4510"), 1);
        for (int lane = 0; lane < 3; lane++) {
            SillHouse x = new SillHouse();
            Check.lay(x, lane, lane, Check.codes("??h3;s0110;t1220!"));
            CHECK.due("amid a row, lane " + lane, x.house(lane, lane, 2, 14), 2);
            CHECK.due("its first door alone", x.house(lane, lane, 2, 8), 1);
            CHECK.due("beside it", x.house(lane, lane, 1, 14), -100);
        }
    }

    private static void firstFault(String text, int place) {
        SillHouse x = new SillHouse();
        CHECK.refused(x, "text " + text, Check.read(x, text), -100 - place);
        CHECK.due("no rooms by " + text, x.many(0), 0);
    }

    private static void houseFirstFaults() {
        firstFault("", 0);
        firstFault("h", 1);
        firstFault("h3", 2);
        firstFault("h3;", 3);
        firstFault("h3;s", 4);
        firstFault("h3;s0", 5);
        firstFault("h3;s01", 6);
        firstFault("h3;s010", 7);
        firstFault("h3;s0110;", 9);
        firstFault("x", 0);
        firstFault("H3;s0110", 0);
        firstFault("h1;s0110", 1);
        firstFault("h7;s0110", 1);
        firstFault("h0", 1);
        firstFault("h3:s0110", 2);
        firstFault("h3;u0110", 3);
        firstFault("h3;S0110", 3);
        firstFault("h3;s3110", 4);
        firstFault("h3;s/110", 4);
        firstFault("h3;s:110", 4);
        firstFault("h3;s0310", 5);
        firstFault("h3;s0010", 5);
        firstFault("h3;s2210", 5);
        firstFault("h3;s01:0", 6);
        firstFault("h3;s01/0", 6);
        firstFault("h3;s010:", 7);
        firstFault("h3;s010/", 7);
        firstFault("h3;s0100", 6);
        firstFault("h3;s0100x", 6);
        firstFault("h3;s0110;t1200", 12);
        firstFault("h3;s0110x", 8);
        firstFault("h3;s0110;;", 9);
        firstFault(EIGHT + ";", 50);
        firstFault(EIGHT + ";s0101", 50);
        firstFault(EIGHT + "x", 50);
        SillHouse x = new SillHouse();
        Check.lay(x, 1, 2, 'h', '2' + 256, ';', 's', '0', '1', '1', '0');
        CHECK.due("an int that a byte would have cut", x.house(1, 2, 0, 8), -101);
        Check.lay(x, 1, 0, 'h', '2' + 256, ';', 's', '0', '1', '1', '0');
        CHECK.due("the same, cut", x.house(1, 0, 0, 8), 1);
        Check.lay(x, 1, 2, 'h', -1, ';');
        CHECK.due("a code below 0", x.house(1, 2, 0, 3), -101);
    }

    private static void houseRefusedAndFaults() {
        SillHouse x = new SillHouse();
        CHECK.refused(x, "sheet -1", x.house(-1, 5, 0, 0), -1);
        CHECK.refused(x, "sheet 4", x.house(4, 0, 0, 0), -1);
        CHECK.refused(x, "lane -1", x.house(0, -1, -1, -1), -2);
        CHECK.refused(x, "lane 3", x.house(0, 3, 0, 0), -2);
        CHECK.fault(x, "nothing", x.house(0, 0, -1, -1), 1);
        x.sheet(0, 1, 8);
        CHECK.fault(x, "a lane too low", x.house(0, 0, -1, -1), 2);
        CHECK.fault(x, "a lane too high", x.house(0, 2, -1, -1), 2);
        CHECK.fault(x, "n below 0", x.house(0, 1, -1, -1), 4);
        CHECK.fault(x, "n least of all", x.house(0, 1, 9, Integer.MIN_VALUE), 4);
        CHECK.fault(x, "i below 0", x.house(0, 1, -1, 1), 3);
        CHECK.fault(x, "i below 0, no cells", x.house(0, 1, -1, 0), 3);
        CHECK.fault(x, "i beyond, no cells", x.house(0, 1, 9, 0), 3);
        CHECK.fault(x, "beyond by one", x.house(0, 1, 1, 8), 3);
        CHECK.fault(x, "far beyond", x.house(0, 1, 1, Integer.MAX_VALUE), 3);
        CHECK.fault(x, "i far beyond", x.house(0, 1, Integer.MAX_VALUE, 1), 3);
        CHECK.refused(x, "no cells, at the end", x.house(0, 1, 8, 0), -100);
    }

    private static void houseMakesAnew() {
        SillHouse x = Check.housed("h3;s0120;t1230");
        x.person(20, 0);
        x.stone(5, 1);
        x.tell(1);
        int traced = x.trace();
        Check.lay(x, 3, 2, 7, 8);
        CHECK.due("another house", Check.read(x, "h2;w1005"), 1);
        CHECK.row("many", (k, none) -> x.many(k), 2, 1, 0, 0);
        CHECK.due("trace stays", x.trace(), traced);
        CHECK.due("sheets stay", x.cell(3, 1, 2), 8);
        CHECK.due("no second door", x.ofDoor(1, 0), -1);
        CHECK.due("persons from 0 on", x.person(30, 1), 0);
        CHECK.due("stones from 0 on", x.stone(3, 0), 0);
        CHECK.due("nothing carried", x.ofPerson(0, 2), 0);
        CHECK.due("no third room", x.person(30, 2), -1);
    }

    private static void houseKeepsWhatStands() {
        SillHouse x = Check.housed("h3;s0120;t1230");
        x.person(20, 1);
        x.stone(5, 1);
        x.take(0, 0);
        CHECK.due("a text with a fault", Check.read(x, "h2;w1000"), -106);
        CHECK.row("many", (k, none) -> x.many(k), 3, 2, 1, 1);
        CHECK.row("of the person", (k, none) -> x.ofPerson(0, k), 20, 1, 1, 25);
        CHECK.row("of a door", (k, none) -> x.ofDoor(1, k), 1, 1, 2, 30, 28, 32, 38, 42);
    }

    private static void doors() {
        SillHouse x = Check.housed("h5;s0120;t1230;w3440;s1401;t4302;w0104;s2303;w0299");
        CHECK.row("a sill", (k, none) -> x.ofDoor(0, k), 0, 0, 1, 20, 18, 22, 18, 22);
        CHECK.row("a twofold", (k, none) -> x.ofDoor(1, k), 1, 1, 2, 30, 28, 32, 38, 42);
        CHECK.row("a worn", (k, none) -> x.ofDoor(2, k), 2, 3, 4, 40, 35, 45, 45, 55);
        CHECK.row("a light sill", (k, none) -> x.ofDoor(3, k), 0, 1, 4, 1, 0, 3, 0, 3);
        CHECK.row("a light twofold", (k, none) -> x.ofDoor(4, k), 1, 4, 3, 2, 0, 4, 10, 14);
        CHECK.row("a light worn", (k, none) -> x.ofDoor(5, k), 2, 0, 1, 4, 0, 9, 9, 19);
        CHECK.row("a sill of 3", (k, none) -> x.ofDoor(6, k), 0, 2, 3, 3, 1, 5, 1, 5);
        CHECK.row("a heavy worn", (k, none) -> x.ofDoor(7, k), 2, 0, 2, 99, 94, 104, 104, 114);
        CHECK.due("no door", x.ofDoor(8, 9), -1);
        CHECK.due("no door below", x.ofDoor(-1, 0), -1);
        CHECK.due("what below", x.ofDoor(0, -1), -2);
        CHECK.due("what above", x.ofDoor(0, 8), -2);
    }

    private static void howMany() {
        SillHouse x = Check.housed("h4;s0120;s1220;s2320");
        x.person(20, 0);
        x.person(20, 0);
        x.stone(1, 0);
        CHECK.row("many", (k, none) -> x.many(k), 4, 3, 2, 1, -2);
        CHECK.due("many(-1)", x.many(-1), -2);
    }
}
