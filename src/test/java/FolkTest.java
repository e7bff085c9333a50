/** Promises 4 to 12: persons and stones, who carries what, who goes through which door. */
public final class FolkTest {
    private static final Check CHECK = new Check("FolkTest");

    public static void main(String[] args) {
        persons();
        stones();
        takeAndLay();
        opens();
        opensByKind();
        pass();
        weigh();
        CHECK.end();
    }

    private static void persons() {
        SillHouse x = Check.housed("h3;s0120;s1220");
        CHECK.due("no room", x.person(9, 3), -1);
        CHECK.due("room below", x.person(20, -1), -1);
        CHECK.due("too light", x.person(9, 2), -2);
        CHECK.due("too heavy", x.person(100, 2), -2);
        CHECK.due("the lightest", x.person(10, 2), 0);
        CHECK.due("the heaviest", x.person(99, 1), 1);
        CHECK.due("a third", x.person(50, 0), 2);
        CHECK.due("a fourth", x.person(50, 0), 3);
        CHECK.due("full, but no room", x.person(50, 3), -1);
        CHECK.due("full, but too light", x.person(1, 0), -2);
        CHECK.due("full", x.person(50, 0), -4);
        CHECK.due("four", x.many(2), 4);
        CHECK.row("of the first", (k, none) -> x.ofPerson(0, k), 10, 2, 0, 10, -2);
        CHECK.row("of the second", (k, none) -> x.ofPerson(1, k), 99, 1, 0, 99, -2);
        CHECK.due("what below", x.ofPerson(0, -1), -2);
        CHECK.due("no person", x.ofPerson(4, 9), -1);
        CHECK.due("person below", x.ofPerson(-1, 0), -1);
    }

    private static void stones() {
        SillHouse x = Check.housed("h3;s0120;s1220");
        x.person(30, 1);
        CHECK.due("no room", x.stone(0, 3), -1);
        CHECK.due("room below", x.stone(1, -1), -1);
        CHECK.due("too light", x.stone(0, 2), -2);
        CHECK.due("too heavy", x.stone(21, 2), -2);
        CHECK.due("the lightest", x.stone(1, 2), 0);
        CHECK.due("the heaviest", x.stone(20, 1), 1);
        CHECK.due("a third", x.stone(7, 0), 2);
        CHECK.due("a fourth", x.stone(7, 0), 3);
        CHECK.due("full, but no room", x.stone(7, 3), -1);
        CHECK.due("full, but too light", x.stone(0, 0), -2);
        CHECK.due("full", x.stone(7, 0), -4);
        x.take(0, 1);
        CHECK.due("taken ones count too", x.stone(7, 0), -4);
        CHECK.row("of the first", (k, none) -> x.ofStone(0, k), 1, 2, -2);
        CHECK.row("of the carried", (k, none) -> x.ofStone(1, k), 20, -20, -2);
        CHECK.due("what below", x.ofStone(0, -1), -2);
        CHECK.due("no stone", x.ofStone(4, 9), -1);
        CHECK.due("stone below", x.ofStone(-1, 0), -1);
    }

    private static void takeAndLay() {
        SillHouse x = Check.housed("h3;s0120;s1220");
        x.person(20, 0);
        x.person(30, 0);
        x.person(30, 2);
        x.stone(1, 0);
        x.stone(2, 0);
        x.stone(4, 0);
        x.stone(8, 1);
        CHECK.due("no person", x.take(3, 0), -1);
        CHECK.due("person below", x.take(-1, 0), -1);
        CHECK.due("no stone", x.take(0, 4), -1);
        CHECK.due("stone below", x.take(0, -1), -1);
        CHECK.due("elsewhere", x.take(0, 3), -3);
        CHECK.due("one", x.take(0, 0), 1);
        CHECK.due("again", x.take(0, 0), -3);
        CHECK.due("another's", x.take(1, 0), -3);
        CHECK.due("two", x.take(0, 2), 2);
        CHECK.due("two are all, and elsewhere", x.take(0, 3), -3);
        CHECK.due("two are all", x.take(0, 1), -4);
        CHECK.row("of the one", (k, none) -> x.ofPerson(0, k), 20, 0, 5, 25);
        CHECK.due("whose", x.ofStone(2, 1), -20);
        CHECK.due("lay: no person", x.lay(3, 0), -1);
        CHECK.due("lay: person below", x.lay(-1, 0), -1);
        CHECK.due("lay: no stone", x.lay(0, 4), -1);
        CHECK.due("lay: stone below", x.lay(0, -1), -1);
        CHECK.due("lay: another's", x.lay(1, 0), -3);
        CHECK.due("lay: lies there", x.lay(0, 1), -3);
        CHECK.due("lay", x.lay(0, 0), 1);
        CHECK.due("where it lies", x.ofStone(0, 1), 0);
        CHECK.due("the other takes it", x.take(1, 0), 1);
        CHECK.due("whose now", x.ofStone(0, 1), -21);
        CHECK.due("lay the last", x.lay(0, 2), 0);
        CHECK.row("of the one, without", (k, none) -> x.ofPerson(0, k), 20, 0, 0, 20);
        CHECK.due("it is taken again", x.take(0, 2), 1);
        CHECK.due("and carried", x.lay(0, 2), 0);
    }

    private static void opens() {
        SillHouse x = Check.housed("h3;s0150;s1250;s0206");
        CHECK.due("nobody yet", x.opens(1, 0), -2);
        x.person(20, 0);
        x.person(30, 0);
        x.person(50, 1);
        x.stone(2, 0);
        x.stone(1, 0);
        CHECK.due("no party, no door", x.opens(0, 9), -2);
        CHECK.due("a bit of none", x.opens(9, 0), -2);
        CHECK.due("bits below 0", x.opens(-1, 0), -2);
        CHECK.due("a high bit", x.opens(1 | 1 << 31, 0), -2);
        CHECK.due("no door", x.opens(1, 3), -1);
        CHECK.due("door below", x.opens(5, -1), -1);
        CHECK.due("not in one room", x.opens(5, 0), -3);
        CHECK.due("door elsewhere", x.opens(1, 1), -3);
        CHECK.due("one is too light", x.opens(1, 0), 0);
        CHECK.due("two are right", x.opens(3, 0), 1);
        CHECK.due("from the other side", x.opens(4, 0), 1);
        CHECK.due("by the other door", x.opens(4, 1), 1);
        x.take(0, 0);
        CHECK.due("with 2 more", x.opens(3, 0), 1);
        x.take(1, 1);
        CHECK.due("with 3 more", x.opens(3, 0), 0);
        CHECK.due("no fault", x.fault(), 0);
    }

    private static void opensAt(String text, int room, int least, int greatest) {
        SillHouse x = Check.housed(text);
        x.person(50, room);
        for (int weight = 10; weight <= 99; weight++) {
            x.weigh(0, weight);
            CHECK.due(text + " for " + weight, x.opens(1, 0), weight >= least && weight <= greatest ? 1 : 0);
        }
    }

    private static void opensByKind() {
        opensAt("h2;s0140", 0, 38, 42);
        opensAt("h2;s0140", 1, 38, 42);
        opensAt("h2;t0140", 0, 38, 42);
        opensAt("h2;t0140", 1, 48, 52);
        opensAt("h2;w0140", 0, 35, 45);
        opensAt("h2;w0140", 1, 45, 55);
        opensAt("h2;t1040", 0, 48, 52);
        opensAt("h2;w1001", 0, 6, 16);
        opensAt("h2;s0101", 0, 1, 3);
    }

    private static void pass() {
        SillHouse x = Check.housed("h3;s0150;t1250;w2052");
        x.person(20, 0);
        x.person(30, 0);
        x.person(50, 0);
        x.stone(2, 0);
        x.take(1, 0);
        CHECK.due("no party", x.pass(0, 0), -2);
        CHECK.due("a bit of none", x.pass(8, 9), -2);
        CHECK.due("bits below 0", x.pass(-8, 0), -2);
        CHECK.due("no door", x.pass(3, 3), -1);
        CHECK.due("door below", x.pass(3, -1), -1);
        CHECK.due("door elsewhere", x.pass(3, 1), -3);
        CHECK.due("does not open", x.pass(1, 0), -3);
        CHECK.due("they pass", x.pass(3, 0), 1);
        CHECK.due("the first is there", x.ofPerson(0, 1), 1);
        CHECK.due("the second is there", x.ofPerson(1, 1), 1);
        CHECK.due("the third is not", x.ofPerson(2, 1), 0);
        CHECK.due("what it carries comes along", x.ofPerson(1, 3), 32);
        CHECK.due("not in one room", x.pass(7, 0), -3);
        CHECK.due("they go on", x.pass(3, 1), 2);
        CHECK.due("back it asks for more", x.pass(3, 1), -3);
        CHECK.due("it is laid there", x.lay(1, 0), 0);
        CHECK.due("it lies there", x.ofStone(0, 1), 2);
        CHECK.due("a worn one", x.pass(3, 2), 0);
        CHECK.due("back all are", x.opens(7, 0), 0);
        CHECK.due("the third passes", x.pass(4, 0), 1);
    }

    private static void weigh() {
        SillHouse x = Check.housed("h2;s0150");
        x.person(20, 0);
        x.stone(5, 0);
        x.take(0, 0);
        CHECK.due("no person", x.weigh(1, 0), -1);
        CHECK.due("person below", x.weigh(-1, 50), -1);
        CHECK.due("too light", x.weigh(0, 9), -2);
        CHECK.due("too heavy", x.weigh(0, 100), -2);
        CHECK.due("what it was", x.weigh(0, 10), 20);
        CHECK.due("what it was then", x.weigh(0, 99), 10);
        CHECK.row("of it", (k, none) -> x.ofPerson(0, k), 99, 0, 1, 104);
    }
}
