/** Promises 13 to 20: ways, stones to be laid, guests, what was heard, a child that grows. */
public final class WaysTest {
    private static final Check CHECK = new Check("WaysTest");

    public static void main(String[] args) {
        fewestWithoutStones();
        fewestWithStones();
        fewestFirstRow();
        fewestAmongOthers();
        reach();
        strangers();
        laid();
        guest();
        heard();
        byStrangers();
        grows();
        CHECK.end();
    }

    private static void fewest(SillHouse x, int p, int room, int... steps) {
        CHECK.due("how many to " + room, x.fewest(p, room, -1), steps.length);
        CHECK.row("steps to " + room, (q, none) -> x.fewest(p, room, q), steps);
        CHECK.due("no more to " + room, x.fewest(p, room, steps.length), -9);
        CHECK.due("none far on", x.fewest(p, room, Integer.MAX_VALUE), -9);
    }

    private static void fewestWithoutStones() {
        SillHouse x = Check.housed("h5;s0120;s1222;s0223;s2321;w0321");
        x.person(20, 0);
        fewest(x, 0, 0);
        fewest(x, 0, 1, 20);
        fewest(x, 0, 2, 20, 21);
        fewest(x, 0, 3, 24);
        CHECK.due("no way", x.fewest(0, 4, -1), -9);
        CHECK.due("no step of it", x.fewest(0, 4, 0), -9);
        CHECK.due("no person", x.fewest(1, 0, 0), -1);
        CHECK.due("person below", x.fewest(-1, 0, 0), -1);
        CHECK.due("no room", x.fewest(0, 5, 0), -1);
        CHECK.due("room below", x.fewest(0, -1, 0), -1);
        CHECK.due("q below", x.fewest(0, 0, -2), -1);
        CHECK.due("it is where it was", x.ofPerson(0, 1), 0);
    }

    private static void fewestWithStones() {
        // To room 2 with a stone fetched from room 1; to room 3 with two of them; to room 4 with another for one laid.
        SillHouse x = Check.housed("h5;w0120;s0230;s0340;s2440;s2030");
        x.person(20, 0);
        x.stone(10, 0);
        x.stone(10, 0);
        fewest(x, 0, 1, 20);
        fewest(x, 0, 2, 0, 21);
        fewest(x, 0, 3, 0, 1, 22);
        CHECK.due("room 4 asks for what it can't bring", x.fewest(0, 4, -1), -9);
        x.take(0, 0);
        x.take(0, 1);
        fewest(x, 0, 3, 22);
        fewest(x, 0, 2, 10, 21);
        fewest(x, 0, 1, 10, 11, 20);
        x.stone(20, 2);
        fewest(x, 0, 4, 10, 21, 2, 11, 23);
        CHECK.due("what it carries is as it was", x.ofPerson(0, 2), 3);
        CHECK.due("a stone lies as it did", x.ofStone(2, 1), 2);
    }

    private static void fewestFirstRow() {
        // Of stones that weigh alike the first; stones ahead of doors; of doors the first.
        SillHouse x = Check.housed("h3;s0150;s0150;s1230");
        x.person(30, 0);
        x.stone(20, 0);
        x.stone(20, 0);
        fewest(x, 0, 1, 0, 20);
        fewest(x, 0, 2, 0, 20, 10, 22);
        x.take(0, 0);
        fewest(x, 0, 2, 20, 10, 22);
        x.take(0, 1);
        fewest(x, 0, 1, 10, 20);
        fewest(x, 0, 2, 10, 20, 11, 22);
    }

    private static void fewestAmongOthers() {
        SillHouse x = Check.housed("h2;s0150");
        x.person(30, 0);
        x.person(20, 0);
        x.stone(20, 0);
        CHECK.due("with it", x.fewest(0, 1, -1), 2);
        x.take(1, 0);
        CHECK.due("another has it", x.fewest(0, 1, -1), -9);
        x.lay(1, 0);
        x.take(0, 0);
        fewest(x, 0, 1, 20);
        // Two at most: the third stone can only be had for another.
        SillHouse y = Check.housed("h2;s0116");
        y.person(10, 0);
        y.stone(1, 0);
        y.stone(1, 0);
        y.stone(1, 0);
        CHECK.due("not by three", y.fewest(0, 1, -1), -9);
        y.stone(3, 0);
        y.take(0, 0);
        y.take(0, 1);
        fewest(y, 0, 1, 10, 3, 20);
    }

    private static void reach() {
        SillHouse x = Check.housed("h6;s0120;t1220;w2324;s3419;t5420");
        CHECK.due("by all but one that asks too much", x.reach(20, 0), 0b11111);
        CHECK.due("from the other end", x.reach(30, 4), 0b110000);
        CHECK.due("back", x.reach(20, 2), 0b11100);
        CHECK.due("itself alone", x.reach(999, 3), 0b1000);
        CHECK.due("the lightest", x.reach(1, 3), 0b1000);
        CHECK.due("too light", x.reach(0, 3), -2);
        CHECK.due("too heavy", x.reach(1000, 3), -2);
        CHECK.due("no room", x.reach(0, 6), -1);
        CHECK.due("room below", x.reach(1, -1), -1);
        x.person(10, 0);
        x.stone(10, 0);
        CHECK.due("stones don't count", x.reach(10, 0), 1);
        SillHouse y = Check.housed("h6;s5420;s4320;s2320;s1220;s0120");
        CHECK.due("against the doors' order", y.reach(20, 0), 0b111111);
    }

    private static void strangers() {
        SillHouse x = Check.housed("h4;w0112;t1214;s0199");
        CHECK.due("how many", x.strangers(0, 1, -1), 11);
        CHECK.row("which", (k, none) -> x.strangers(0, 1, k), 10, 11, 12, 13, 14, 15, 16, 17, 97, 98, 99, -9);
        CHECK.row("which back", (k, none) -> x.strangers(1, 0, k), 17, 18, 19, 20, 21, 22, 23, 24, 25, 26, 27, 97, 98, 99, -9);
        CHECK.due("how many back", x.strangers(1, 0, -1), 14);
        CHECK.row("which by two doors", (k, none) -> x.strangers(0, 2, k), 12, 13, 14, 15, 16, -9);
        CHECK.due("none", x.strangers(0, 3, -1), 0);
        CHECK.due("none, the first", x.strangers(0, 3, 0), -9);
        CHECK.due("to the same", x.strangers(3, 3, -1), 90);
        CHECK.due("to the same, the last", x.strangers(3, 3, 89), 99);
        CHECK.due("to the same, beyond", x.strangers(3, 3, 90), -9);
        CHECK.due("no room", x.strangers(4, 0, 0), -1);
        CHECK.due("no room to come to", x.strangers(0, 4, 0), -1);
        CHECK.due("room below", x.strangers(-1, 0, 0), -1);
        CHECK.due("room to come to below", x.strangers(0, -1, 0), -1);
        CHECK.due("k below", x.strangers(0, 1, -2), -1);
    }

    private static void laid(SillHouse x, int p, int room, int... row) {
        CHECK.due("how many laid for " + room, x.laid(p, room, -1), row.length);
        CHECK.due("first for " + room, x.laid(p, room, 0), row.length > 0 ? row[0] : -9);
        CHECK.due("second for " + room, x.laid(p, room, 1), row.length > 1 ? row[1] : -9);
    }

    private static void laid() {
        SillHouse x = Check.housed("h5;s0150;s0260;s0380;s0491");
        x.person(48, 0);
        laid(x, 0, 0);
        laid(x, 0, 1);
        laid(x, 0, 2, 10);
        laid(x, 0, 3, 10, 20);
        CHECK.due("not by two", x.laid(0, 4, -1), -9);
        CHECK.due("not by two, the first", x.laid(0, 4, 0), -9);
        CHECK.due("not by two, the second", x.laid(0, 4, 1), -9);
        x.weigh(0, 49);
        laid(x, 0, 4, 20, 20);
        x.weigh(0, 47);
        laid(x, 0, 1, 1);
        CHECK.due("no person", x.laid(1, 0, 0), -1);
        CHECK.due("person below", x.laid(-1, 0, 0), -1);
        CHECK.due("no room", x.laid(0, 5, 0), -1);
        CHECK.due("room below", x.laid(0, -1, 0), -1);
        CHECK.due("q below", x.laid(0, 0, -2), -1);
        CHECK.due("q above", x.laid(0, 0, 2), -1);
        laidWithOthers();
        laidToBeLaid();
    }

    private static void laidWithOthers() {
        SillHouse x = Check.housed("h2;s0150");
        x.person(30, 0);
        for (int s = 0; s < 4; s++) {
            x.stone(20, 0);
        }
        laid(x, 0, 1, 18);
        x.person(30, 0);
        x.take(1, 0);
        laid(x, 0, 1, 18);
        x.take(0, 1);
        CHECK.due("it carries something", x.laid(0, 1, -1), -3);
        CHECK.due("it carries something, q above", x.laid(0, 1, 2), -1);
        CHECK.due("no new stones have come", x.many(3), 4);
    }

    private static void laidToBeLaid() {
        // A stone for the first door that has to be laid ahead of the second one.
        SillHouse x = Check.housed("h3;s0140;s1230");
        x.person(30, 0);
        laid(x, 0, 1, 8);
        laid(x, 0, 2, 8);
        // Two are needed in room 1, but only one of them may be carried there at a time.
        SillHouse y = Check.housed("h3;s0130;s1235");
        y.person(30, 0);
        laid(y, 0, 2, 1, 2);
        y.stone(1, 0);
        y.stone(2, 0);
        fewest(y, 0, 2, 0, 20, 10, 20, 1, 20, 0, 21);
    }

    private static void guest() {
        SillHouse x = Check.housed("h6;s0120;s0230;s0328;s0332;s0462");
        x.person(30, 0);
        x.stone(10, 0);
        x.take(0, 0);
        CHECK.due("stones don't count", x.guest(0, 1), 92);
        CHECK.due("as it is", x.guest(0, 2), 100);
        CHECK.due("where it is", x.guest(0, 0), 100);
        CHECK.due("by nothing", x.guest(0, 3), 100);
        CHECK.due("by the most", x.guest(0, 4), 130);
        x.weigh(0, 29);
        CHECK.due("by too much", x.guest(0, 4), -9);
        CHECK.due("no way", x.guest(0, 5), -9);
        CHECK.due("no person", x.guest(1, 0), -1);
        CHECK.due("person below", x.guest(-1, 0), -1);
        CHECK.due("no room", x.guest(0, 6), -1);
        CHECK.due("room below", x.guest(0, -1), -1);
        SillHouse y = Check.housed("h4;s0120;s0130;s0201");
        y.person(25, 0);
        CHECK.due("of two alike the one below", y.guest(0, 1), 97);
        y.weigh(0, 26);
        CHECK.due("the lesser", y.guest(0, 1), 102);
        y.weigh(0, 33);
        CHECK.due("down by the most", y.guest(0, 2), 70);
        y.weigh(0, 34);
        CHECK.due("down by too much", y.guest(0, 2), -9);
        y.weigh(0, 10);
        CHECK.due("to no less than 1", y.guest(0, 2), 93);
        y.weigh(0, 99);
        CHECK.due("none that heavy", y.guest(0, 1), -9);
    }

    private static void heard() {
        SillHouse x = Check.housed("h3;s0130;t1230;w2030");
        x.person(30, 0);
        x.person(20, 0);
        x.person(32, 1);
        x.person(35, 2);
        x.stone(10, 0);
        Check.lay(x, 1, 2, 0, 1, 2, 0, 0, 3, -1);
        CHECK.due("nothing heard", x.heard(1, 2, 0, 0), 15);
        CHECK.due("nothing heard at the end", x.heard(1, 2, 7, 0), 15);
        CHECK.due("one door", x.heard(1, 2, 0, 1), 0b0101);
        CHECK.due("two doors", x.heard(1, 2, 0, 2), 0b0001);
        CHECK.due("round", x.heard(1, 2, 0, 3), 0b0001);
        CHECK.due("round and on", x.heard(1, 2, 0, 4), 0b0001);
        CHECK.due("forth and back", x.heard(1, 2, 3, 2), 0b0101);
        CHECK.due("from the last", x.heard(1, 2, 2, 1), 0b1000);
        x.take(1, 0);
        CHECK.due("with what it carries", x.heard(1, 2, 0, 3), 0b0011);
        CHECK.refused(x, "a door that is none", x.heard(1, 2, 4, 2), -1);
        CHECK.refused(x, "a door below", x.heard(1, 2, 6, 1), -1);
        CHECK.refused(x, "no sheet", x.heard(4, 9, 0, 0), -1);
        CHECK.refused(x, "sheet below", x.heard(-1, 0, 0, 0), -1);
        CHECK.refused(x, "no lane", x.heard(2, 3, 0, 0), -2);
        CHECK.refused(x, "lane below", x.heard(1, -1, 0, 0), -2);
        CHECK.fault(x, "cast", x.heard(1, 1, 0, -1), 2);
        CHECK.fault(x, "nothing there", x.heard(2, 1, 0, -1), 1);
        CHECK.fault(x, "size", x.heard(1, 2, -1, -1), 4);
        CHECK.fault(x, "index", x.heard(1, 2, 5, 3), 3);
        CHECK.fault(x, "index below", x.heard(1, 2, -1, 0), 3);
        CHECK.fault(x, "index beyond", x.heard(1, 2, 8, 0), 3);
        CHECK.refused(x, "no fault any more", x.heard(1, 2, 0, 0), 15);
    }

    private static void byStrangers() {
        SillHouse x = Check.housed("h3;s0130;t1230;w2030;s0112;s0198");
        Check.lay(x, 1, 1, 0, 1, 2, 3, 4, 5);
        CHECK.due("nothing heard", x.byStrangers(2, 1, 1, 0, 0), 90);
        CHECK.due("one door", x.byStrangers(0, 1, 1, 0, 1), 5);
        CHECK.due("two doors", x.byStrangers(0, 1, 1, 0, 2), 5);
        CHECK.due("not from there", x.byStrangers(2, 1, 1, 0, 1), 0);
        CHECK.due("from its second side", x.byStrangers(2, 1, 1, 1, 1), 5);
        CHECK.due("from both sides of a worn one", x.byStrangers(2, 1, 1, 2, 1), 11);
        CHECK.due("none below 10", x.byStrangers(0, 1, 1, 3, 1), 5);
        CHECK.due("none above 99", x.byStrangers(1, 1, 1, 4, 1), 4);
        CHECK.refused(x, "no room", x.byStrangers(3, 1, 9, 0, 0), -1);
        CHECK.refused(x, "room below", x.byStrangers(-1, 1, 1, 0, 0), -1);
        CHECK.refused(x, "no sheet", x.byStrangers(0, 4, 9, 0, 0), -1);
        CHECK.refused(x, "no lane", x.byStrangers(0, 2, 3, 0, 0), -2);
        CHECK.fault(x, "cast", x.byStrangers(0, 1, 0, 0, -1), 2);
        CHECK.refused(x, "no room after a fault", x.byStrangers(3, 1, 1, 0, 0), -1);
        CHECK.fault(x, "nothing there", x.byStrangers(0, 2, 1, 0, -1), 1);
        CHECK.fault(x, "size", x.byStrangers(0, 1, 1, -1, -1), 4);
        CHECK.fault(x, "index", x.byStrangers(0, 1, 1, 4, 3), 3);
        CHECK.refused(x, "a door that is none", x.byStrangers(0, 1, 1, 4, 2), -1);
    }

    private static void grows() {
        SillHouse x = Check.housed("h4;s0120;s0122;t0261;w0260;w0268;s1320");
        x.person(18, 0);
        x.stone(20, 0);
        CHECK.due("ever", x.grows(0, 0, 1), -9);
        CHECK.due("never", x.grows(0, 0, 2), 0);
        CHECK.due("by 1", x.grows(0, 1, 1), 7);
        CHECK.due("by 2", x.grows(0, 2, 1), 4);
        CHECK.due("by 9", x.grows(0, 9, 1), 1);
        CHECK.due("by two doors", x.grows(0, 1, 3), 5);
        CHECK.due("where it is", x.grows(0, 9, 0), -9);
        x.take(0, 0);
        CHECK.due("stones don't count", x.grows(0, 1, 1), 7);
        CHECK.due("too fast", x.grows(0, 10, 1), -2);
        CHECK.due("backwards", x.grows(0, -1, 1), -2);
        CHECK.due("no person", x.grows(1, 10, 1), -1);
        CHECK.due("person below", x.grows(-1, 1, 1), -1);
        CHECK.due("no room", x.grows(0, 10, 4), -1);
        CHECK.due("room below", x.grows(0, 1, -1), -1);
        // From 35 on all open up to 65: in the last year it weighs just that, and so never too much; one more is.
        SillHouse y = Check.housed("h2;w0140;w0150;w0160");
        y.person(35, 0);
        CHECK.due("in the last year still", y.grows(0, 1, 1), -9);
        y.weigh(0, 36);
        CHECK.due("in the last year not", y.grows(0, 1, 1), 30);
        y.weigh(0, 37);
        CHECK.due("in the last year but one not", y.grows(0, 1, 1), 29);
    }
}
