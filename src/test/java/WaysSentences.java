/** 3 to 5 of the terms (ways, stones to be laid, guests, what was heard, a child that grows) and promises 13 to 20. */
final class WaysSentences {
    private final Check check;
    private final Doc doc;

    WaysSentences(Check check, Doc doc) {
        this.check = check;
        this.doc = doc;
    }

    void run() {
        fewestSteps();
        fewestWithStones();
        fewestInTheLastRooms();
        fewestByMany();
        fewestLeavesOthers();
        firstRowOfSteps();
        numbersOfSteps();
        askedForSteps();
        reach();
        reachOfEdges();
        strangers();
        laidNone();
        laidOne();
        laidTwo();
        laidAlone();
        laidAsInFewest();
        laidFirstRow();
        guestByEachChange();
        guestOfTwoAlike();
        guestWithoutStones();
        heard();
        heardFromItsRoom();
        byStrangers();
        growsUntilYear();
        growsByEach();
        growsWithoutStones();
    }

    // ---- fewest

    private void way(SillHouse x, int room, int... steps) {
        check.due("how many to " + room, x.fewest(0, room, -1), steps.length);
        check.row("to " + room + ", step", (q, none) -> x.fewest(0, room, q), steps);
        check.due("one step more to " + room, x.fewest(0, room, steps.length), -9);
    }

    private void noWay(SillHouse x, int room) {
        for (int q = -1; q < 3; q++) {
            check.due("no way to " + room, x.fewest(0, room, q), -9);
        }
    }

    private void fewestSteps() {
        doc.says(Doc.TERMS, "3 FEWEST: the fewest STEPS by which a PERSON alone comes to a ROOM,");
        SillHouse x = Check.housed("h5;s0120;s1220;s2320;s0220;s3499");
        x.person(20, 0);
        way(x, 0);
        way(x, 1, 20);
        way(x, 2, 23);
        way(x, 3, 23, 22);
        noWay(x, 4);
        x.person(79, 3);
        x.weigh(0, 22);
        x.pass(1, 3);
        x.pass(1, 2);
        check.due("the two together would pass", x.opens(3, 4), 1);
        noWay(x, 4);
        way(x, 0, 22, 23);
    }

    private void fewestWithStones() {
        doc.says(Doc.TERMS, "TAKING STONES that lie somewhere, LAYING those it CARRIES");
        SillHouse x = Check.housed("h5;w0120;s0230;s0340;s2440;s2030");
        x.person(20, 0);
        x.stone(10, 0);
        x.stone(10, 1);
        way(x, 2, 0, 21);
        way(x, 3, 20, 1, 20, 0, 22);
        noWay(x, 4);
        x.take(0, 0);
        way(x, 2, 21);
        way(x, 1, 10, 20);
        SillHouse two = Check.housed("h3;s0160;w0110;s0250");
        two.person(10, 0);
        for (int s = 0; s < 4; s++) {
            two.stone(20, 0);
        }
        check.due("two at most are carried", two.fewest(0, 1, 0), 21);
        way(two, 2, 0, 1, 22);
        SillHouse three = Check.housed("h2;s0170");
        three.person(10, 0);
        for (int s = 0; s < 4; s++) {
            three.stone(20, 0);
        }
        noWay(three, 1);
        SillHouse swapped = Check.housed("h2;s0130");
        swapped.person(10, 0);
        swapped.stone(1, 0);
        swapped.stone(1, 0);
        swapped.stone(20, 0);
        swapped.take(0, 0);
        swapped.take(0, 1);
        way(swapped, 1, 10, 2, 20);
    }

    private void fewestInTheLastRooms() {
        SillHouse x = Check.housed("h6;s5020;s5130;s4520;s3530;s2440");
        x.person(20, 5);
        x.stone(10, 5);
        x.stone(10, 5);
        x.stone(20, 4);
        way(x, 5);
        way(x, 0, 20);
        way(x, 1, 0, 21);
        way(x, 4, 22);
        way(x, 3, 0, 23);
        way(x, 2, 22, 2, 24);
        x.pass(1, 0);
        way(x, 5, 20);
        way(x, 1, 20, 0, 21);
        way(x, 2, 20, 22, 2, 24);
        x.pass(1, 0);
        x.take(0, 0);
        x.take(0, 1);
        way(x, 1, 10, 21);
        way(x, 0, 10, 11, 20);
    }

    /** A way of which one has to know in which rooms all four stones may lie. */
    private void fewestByMany() {
        SillHouse x = Check.housed("h6;s0112;s1212;s2312;s3412;s0516");
        x.person(10, 0);
        for (int s = 0; s < 4; s++) {
            x.stone(s == 3 ? 3 : 1, s == 3 ? 4 : 3 - s);
        }
        way(x, 5, 20, 2, 21, 22, 23, 3, 23, 22, 21, 20, 24);
        way(x, 4, 20, 21, 22, 23);
        x.weigh(0, 11);
        way(x, 5, 20, 21, 22, 23, 3, 23, 22, 21, 20, 24);
        SillHouse back = Check.housed("h6;s5412;s4312;s3212;s2112;s5017");
        back.person(10, 5);
        for (int s = 0; s < 4; s++) {
            back.stone(2 + s % 2, s + 1);
        }
        way(back, 0, 20, 3, 20, 13, 20, 21, 2, 21, 20, 3, 24);
        // Stones 0 and 1 have to be brought one by one from the far end; 2 and 3 can be anywhere, and don't help.
        SillHouse far = Check.housed("h6;s5412;s4312;s3212;s2112;s5017");
        far.person(10, 5);
        far.stone(3, 1);
        far.stone(3, 1);
        far.stone(1, 3);
        far.stone(1, 2);
        way(far, 0, 20, 21, 22, 23, 0, 23, 22, 21, 20, 10, 20, 21, 22, 23, 1, 23, 22, 21, 20, 0, 24);
    }

    private void fewestLeavesOthers() {
        doc.says(Doc.TERMS, "(others, and what they CARRY, stay);");
        SillHouse x = Check.housed("h2;s0150");
        x.person(30, 0);
        x.person(20, 0);
        x.stone(20, 0);
        x.stone(20, 0);
        x.take(1, 1);
        way(x, 1, 0, 20);
        x.take(1, 0);
        noWay(x, 1);
        x.lay(1, 1);
        way(x, 1, 1, 20);
        check.row("who asked is as before", (what, none) -> x.ofPerson(0, what), 30, 0, 0, 30);
        check.row("the other is as before", (what, none) -> x.ofPerson(1, what), 20, 0, 1, 40);
        check.row("a stone is as before", (what, none) -> x.ofStone(1, what), 20, 0);
    }

    private void firstRowOfSteps() {
        doc.says(Doc.TERMS, "of several the first as a row of STEPS:");
        SillHouse stones = Check.housed("h2;s0150");
        stones.person(30, 0);
        stones.stone(20, 0);
        stones.stone(20, 0);
        way(stones, 1, 0, 20);
        stones.take(0, 1);
        stones.take(0, 0);
        way(stones, 1, 10, 20);
        SillHouse doors = Check.housed("h3;s0250;s0150;s0150;s0250;s1250");
        doors.person(50, 0);
        way(doors, 1, 21);
        way(doors, 2, 20);
        SillHouse early = Check.housed("h3;s0131;s1228");
        early.person(30, 0);
        early.stone(2, 0);
        early.take(0, 0);
        way(early, 2, 10, 20, 21);
        SillHouse takes = Check.housed("h2;s0140");
        takes.person(20, 0);
        takes.stone(1, 0);
        takes.stone(20, 0);
        takes.take(0, 0);
        way(takes, 1, 1, 20);
        SillHouse exchange = Check.housed("h2;s0145");
        exchange.person(25, 0);
        exchange.stone(20, 0);
        exchange.stone(10, 0);
        exchange.take(0, 1);
        way(exchange, 1, 0, 11, 20);
        SillHouse where = Check.housed("h3;w0122;s1230");
        where.person(22, 0);
        where.stone(8, 1);
        where.stone(5, 0);
        where.stone(8, 0);
        where.stone(6, 0);
        way(where, 2, 20, 0, 21);
        where.weigh(0, 19);
        way(where, 2, 1, 20, 0, 21);
    }

    private void numbersOfSteps() {
        doc.says(Doc.TERMS, "TAKES 0 .. 3 (the STONE), LAYS 10 .. 13 (and 10), PASSES 20 .. 27 (the DOOR and 20).");
        for (int s = 0; s < 4; s++) {
            SillHouse x = Check.housed("h2;s0125");
            x.person(20, 0);
            for (int k = 0; k < 4; k++) {
                x.stone(k == s ? 5 : 20, 0);
            }
            way(x, 1, s, 20);
            x.weigh(0, 25);
            x.take(0, s);
            way(x, 1, 10 + s, 20);
        }
        for (int d = 0; d < 8; d++) {
            StringBuilder text = new StringBuilder("h2");
            for (int k = 0; k < 8; k++) {
                text.append(k == d ? ";s0125" : ";s0199");
            }
            SillHouse x = Check.housed(text.toString());
            x.person(25, 0);
            way(x, 1, 20 + d);
        }
    }

    private void askedForSteps() {
        doc.says(13, "FEWEST: how many STEPS (q -1; NONE: it can't come there), the q-th (0 on); NONE: there are fewer.");
        SillHouse x = Check.housed("h4;s0130;s1220");
        x.person(20, 0);
        x.stone(10, 0);
        check.row("to room 2, q", (q, none) -> x.fewest(0, 2, q - 1), 4, 0, 20, 10, 21, -9, -9);
        check.due("far on", x.fewest(0, 2, Integer.MAX_VALUE), -9);
        check.row("to where it is, q", (q, none) -> x.fewest(0, 0, q - 1), 0, -9, -9);
        check.row("to where it can't come, q", (q, none) -> x.fewest(0, 3, q - 1), -9, -9, -9);
    }

    // ---- reach, strangers

    private void reach() {
        doc.says(Doc.TERMS, "REACH of a weight from a ROOM: all ROOMS to which one comes (itself, too) with that weight, "
                + "without a STONE.");
        SillHouse x = Check.housed("h6;s5420;s4320;s2320;s1220;s0120;t0570");
        x.person(20, 0);
        x.stone(5, 0);
        for (int room = 0; room < 6; room++) {
            check.due("all", x.reach(20, room), 63);
            check.due("the last that one comes by", x.reach(22, room), 63);
            check.due("itself alone, by one more", x.reach(23, room), 1 << room);
            check.due("itself alone, by less", x.reach(17, room), 1 << room);
        }
        check.due("by the twofold", x.reach(70, 0), 33);
        check.due("not back by it", x.reach(70, 5), 32);
        check.due("back by 10 more", x.reach(80, 5), 33);
        check.due("a stone is not taken", x.reach(15, 0), 1);
    }

    private void reachOfEdges() {
        doc.says(14, "REACH.");
        SillHouse x = Check.housed("h4;s0101;w1299;s3203");
        check.due("of 1, by a sill of 1", x.reach(1, 0), 3);
        check.due("of 3, by a sill of 1", x.reach(3, 0), 3);
        check.due("of 4, by a sill of 1", x.reach(4, 0), 1);
        check.due("of 0", x.reach(0, 0), -2);
        check.due("of 1, by a sill of 3", x.reach(1, 3), 12);
        check.due("of 114, by a worn one of 99", x.reach(114, 2), 6);
        check.due("of 115, by a worn one of 99", x.reach(115, 2), 4);
        check.due("of 999", x.reach(999, 2), 4);
        check.due("of 1000", x.reach(1000, 2), -2);
    }

    private void strangers() {
        doc.says(Doc.TERMS, "STRANGERS: weights 10 .. 99 by whose REACH one comes from a ROOM to another one.");
        doc.says(15, "STRANGERS: how many (k -1), the k-th, rising; NONE: there are fewer.");
        SillHouse x = Check.housed("h6;s0108;w0299;s0307;t4098;s0140;s1250;s1252");
        check.row("10 and what a sill of 40 takes", (k, none) -> x.strangers(0, 1, k - 1), 6, 10, 38, 39, 40, 41, 42, -9, -9);
        check.row("no more than 99", (k, none) -> x.strangers(0, 2, k - 1), 6, 94, 95, 96, 97, 98, 99, -9, -9);
        check.row("9 is too light", (k, none) -> x.strangers(0, 3, k - 1), 0, -9, -9);
        check.row("106 is too heavy", (k, none) -> x.strangers(0, 4, k - 1), 0, -9, -9);
        check.row("up to 99", (k, none) -> x.strangers(4, 0, k - 1), 4, 96, 97, 98, 99, -9);
        check.row("by two sills, each once", (k, none) -> x.strangers(1, 2, k - 1), 7, 48, 49, 50, 51, 52, 53, 54, -9);
        check.row("no door", (k, none) -> x.strangers(0, 5, k - 1), 0, -9, -9);
        check.due("to itself", x.strangers(5, 5, -1), 90);
        check.due("the first to itself", x.strangers(5, 5, 0), 10);
        check.due("the last to itself", x.strangers(5, 5, 89), 99);
        check.due("one more to itself", x.strangers(5, 5, 90), -9);
        check.due("far on", x.strangers(0, 1, Integer.MAX_VALUE), -9);
    }

    // ---- laid, guest

    private void laid(SillHouse x, int room, int... row) {
        check.due("how many for " + room, x.laid(0, room, -1), row.length);
        check.due("the first for " + room, x.laid(0, room, 0), row.length > 0 ? row[0] : -9);
        check.due("the second for " + room, x.laid(0, room, 1), row.length > 1 ? row[1] : -9);
    }

    private void notLaid(SillHouse x, int room) {
        for (int q = -1; q < 2; q++) {
            check.due("not by two for " + room, x.laid(0, room, q), -9);
        }
    }

    private void laidNone() {
        doc.says(16, "LAID: how many (q -1; NONE: not by two), the q-th (0, 1); NONE: there are fewer.");
        SillHouse x = Check.housed("h4;s0150;s1250");
        x.person(48, 0);
        laid(x, 0);
        laid(x, 1);
        laid(x, 2);
        notLaid(x, 3);
    }

    private void laidOne() {
        doc.says(Doc.TERMS, "4 LAID: the fewest new STONES (0 .. 2, 1 .. 20 each) that would have to lie in the ROOM of a PERSON "
                + "that CARRIES nothing,");
        SillHouse x = Check.housed("h2;s0150");
        x.person(47, 0);
        for (int stone = 1; stone <= 20; stone++) {
            x.weigh(0, 48 - stone);
            laid(x, 1, stone);
        }
        x.weigh(0, 27);
        laid(x, 1, 1, 20);
        x.weigh(0, 53);
        notLaid(x, 1);
        x.weigh(0, 52);
        laid(x, 1);
    }

    private void laidTwo() {
        SillHouse x = Check.housed("h2;s0150");
        x.person(10, 0);
        for (int missing = 21; missing <= 38; missing++) {
            x.weigh(0, 48 - missing);
            laid(x, 1, missing - 20, 20);
        }
        SillHouse most = Check.housed("h2;s0152");
        most.person(10, 0);
        laid(most, 1, 20, 20);
        SillHouse more = Check.housed("h2;s0153");
        more.person(10, 0);
        notLaid(more, 1);
    }

    private void laidAlone() {
        doc.says(Doc.TERMS, "so that it came to a ROOM with them alone (no other STONES there),");
        SillHouse x = Check.housed("h3;s0150;s2050");
        x.person(30, 0);
        for (int s = 0; s < 4; s++) {
            x.stone(20, 0);
        }
        laid(x, 1, 18);
        x.person(30, 0);
        x.take(1, 0);
        laid(x, 1, 18);
        check.due("the stones are as they were", x.many(3), 4);
        check.due("one that another carries, too", x.ofStone(0, 1), -21);
        x.take(0, 1);
        check.due("it carries something", x.laid(0, 1, -1), -3);
        x.lay(0, 1);
        laid(x, 1, 18);
        SillHouse far = Check.housed("h3;s0120;s1240");
        far.person(20, 0);
        far.stone(20, 1);
        notLaid(far, 2);
        check.due("with the stone that lies there it comes", far.fewest(0, 2, -1), 3);
    }

    private void laidAsInFewest() {
        doc.says(Doc.TERMS, "TAKING, LAYING them as in FEWEST:");
        SillHouse x = Check.housed("h3;s0140;s1230");
        x.person(30, 0);
        laid(x, 2, 8);
        SillHouse twice = Check.housed("h3;s0130;s1235");
        twice.person(30, 0);
        laid(twice, 2, 1, 2);
        SillHouse first = Check.housed("h3;s0140;s1255;s2130");
        first.person(30, 1);
        laid(first, 2);
        laid(first, 0, 8);
    }

    private void laidFirstRow() {
        doc.says(Doc.TERMS, "of several the first as a row that does not fall.");
        SillHouse x = Check.housed("h2;w0170");
        x.person(40, 0);
        laid(x, 1, 5, 20);
        x.weigh(0, 44);
        laid(x, 1, 1, 20);
        x.weigh(0, 45);
        laid(x, 1, 20);
        x.weigh(0, 64);
        laid(x, 1, 1);
        // 26 .. 30 more for the one door, then 8 .. 12 more for the other.
        SillHouse two = Check.housed("h3;s0140;s1222");
        two.person(12, 0);
        laid(two, 2, 8, 18);
    }

    private void guestByEachChange() {
        doc.says(Doc.TERMS, "GUEST: by the least change of what a PERSON weighs (without what it CARRIES; -30 .. 30; it has to "
                + "weigh 1 at least) its REACH has a ROOM;");
        doc.says(17, "GUEST: the change, and 100; NONE: there is none.");
        for (int change = -34; change <= 34; change++) {
            int weight = 50 + change + 2 * Integer.signum(change);
            SillHouse x = Check.housed("h4;s01" + weight / 10 + weight % 10 + ";w1250;w1230;w1270;w1215;w1285");
            x.person(50, 0);
            int due = change < -30 || change > 30 ? -9 : 100 + change;
            check.due("guest to be changed by " + change, x.guest(0, 1), due);
            check.due("guest where it is", x.guest(0, 0), 100);
            check.due("guest to where no door is", x.guest(0, 3), -9);
        }
        SillHouse light = Check.housed("h4;s0101;s0203;s1002;s2301");
        light.person(10, 0);
        check.due("down to 3", light.guest(0, 1), 94);
        check.due("down to 5", light.guest(0, 2), 95);
        check.due("by two doors down to 3", light.guest(0, 3), 93);
        light.weigh(0, 34);
        check.due("down to 4 by all 30", light.guest(0, 1), 70);
        light.weigh(0, 33);
        check.due("down to 3 by all 30", light.guest(0, 3), 70);
        light.weigh(0, 34);
        check.due("down to 3 by 31", light.guest(0, 3), -9);
        SillHouse heavy = Check.housed("h2;w0199");
        heavy.person(84, 1);
        check.due("up to 104", heavy.guest(0, 0), 120);
        heavy.weigh(0, 74);
        check.due("up to 104 by all 30", heavy.guest(0, 0), 130);
        heavy.weigh(0, 73);
        check.due("up to 104 by 31", heavy.guest(0, 0), -9);
    }

    private void guestOfTwoAlike() {
        doc.says(Doc.TERMS, "of two alike the one below 0.");
        for (int apart = 3; apart <= 32; apart++) {
            int below = 50 - apart;
            SillHouse x = Check.housed("h2;s01" + (50 + apart) + ";s01" + below / 10 + below % 10);
            x.person(50, 0);
            check.due("guest between two sills", x.guest(0, 1), 100 - (apart - 2));
            x.weigh(0, 51);
            check.due("guest nearer to the heavy one", x.guest(0, 1), 100 + (apart - 3));
            x.weigh(0, 49);
            check.due("guest nearer to the light one", x.guest(0, 1), 100 - (apart - 3));
        }
    }

    private void guestWithoutStones() {
        SillHouse x = Check.housed("h2;s0150");
        x.person(40, 0);
        x.stone(8, 0);
        check.due("with nothing", x.guest(0, 1), 108);
        x.take(0, 0);
        check.due("with a stone", x.guest(0, 1), 108);
        check.due("what it weighs is as it was", x.ofPerson(0, 0), 40);
    }

    // ---- heard, by strangers, grows

    private void heard() {
        doc.says(Doc.TERMS, "5 HEARD: DOORS that OPENED one after another: PERSONS each of whom alone, with what it CARRIES, can "
                + "have PASSED them,");
        doc.says(18, "HEARD, n such cells (DOORS).");
        SillHouse x = Check.housed("h3;s0130;t1230;w2035");
        x.person(30, 0);
        x.person(20, 0);
        x.person(15, 0);
        x.person(15, 0);
        x.stone(10, 0);
        x.stone(1, 0);
        for (int lane = 0; lane < 3; lane++) {
            Check.lay(x, lane, lane, 9, 0, 1, 2, 0, 0, 0);
            check.due("none", x.heard(lane, lane, 1, 0), 15);
            check.due("none at the end", x.heard(lane, lane, 7, 0), 15);
            check.due("one", x.heard(lane, lane, 1, 1), 1);
            check.due("one after another", x.heard(lane, lane, 1, 3), 1);
            check.due("round and on", x.heard(lane, lane, 1, 4), 1);
            check.due("up to the last", x.heard(lane, lane, 1, 6), 1);
            check.due("the last alone", x.heard(lane, lane, 6, 1), 1);
            check.due("not the second ahead", x.heard(lane, lane, 2, 1), 0);
            check.due("a door that is none", x.heard(lane, lane, 0, 1), -1);
        }
        check.due("two together would have passed", x.opens(12, 0), 1);
        x.take(1, 0);
        check.due("with what it carries", x.heard(0, 0, 1, 4), 3);
        x.take(0, 1);
        x.weigh(0, 32);
        check.due("not with what it carries", x.heard(0, 0, 1, 1), 2);
        check.due("nobody has gone", x.ofPerson(1, 1), 0);
        check.due("a stone is where it was", x.ofStone(0, 1), -21);
    }

    private void heardFromItsRoom() {
        doc.says(Doc.TERMS, "from the ROOM in which it is, as a set;");
        SillHouse x = Check.housed("h2;t0130;w0145");
        x.person(30, 0);
        x.person(40, 1);
        x.person(30, 1);
        x.person(50, 1);
        int[] row = new int[60];
        java.util.Arrays.fill(row, 1);
        row[0] = 0;
        Check.lay(x, 3, 1, row);
        check.due("the twofold, from each side", x.heard(3, 1, 0, 1), 0b0011);
        check.due("the worn one, from each side", x.heard(3, 1, 1, 1), 0b1000);
        check.due("it forth and back", x.heard(3, 1, 1, 2), 0b1000);
        check.due("all cells but the first", x.heard(3, 1, 1, 59), 0b1000);
        check.due("all cells", x.heard(3, 1, 0, 60), 0);
        x.weigh(1, 42);
        check.due("the one, then the other", x.heard(3, 1, 0, 2), 0b0010);
    }

    private void byStrangers() {
        doc.says(Doc.TERMS, "BY STRANGERS: how many weights 10 .. 99 by which one can have, from a ROOM.");
        doc.says(19, "BY STRANGERS from a ROOM, n such cells.");
        SillHouse x = Check.housed("h3;s0108;w0199;t0150;s1253;s0107;t1098");
        x.person(50, 0);
        Check.lay(x, 1, 0, 0, 1, 2, 3, 4, 5, 9);
        check.due("none", x.byStrangers(2, 1, 0, 0, 0), 90);
        check.due("none at the end", x.byStrangers(2, 1, 0, 7, 0), 90);
        check.due("10 alone", x.byStrangers(0, 1, 0, 0, 1), 1);
        check.due("94 .. 99", x.byStrangers(0, 1, 0, 1, 1), 6);
        check.due("104 and more from the other side", x.byStrangers(1, 1, 0, 1, 1), 0);
        check.due("48 .. 52", x.byStrangers(0, 1, 0, 2, 1), 5);
        check.due("58 .. 62 from the other side", x.byStrangers(1, 1, 0, 2, 1), 5);
        check.due("51 and 52 by one after another", x.byStrangers(0, 1, 0, 2, 2), 2);
        check.due("not one after another", x.byStrangers(0, 1, 0, 1, 2), 0);
        check.due("9 is too light", x.byStrangers(0, 1, 0, 4, 1), 0);
        check.due("96 .. 99", x.byStrangers(1, 1, 0, 5, 1), 4);
        check.due("not from there", x.byStrangers(2, 1, 0, 0, 1), 0);
        check.due("a door that is none", x.byStrangers(0, 1, 0, 6, 1), -1);
    }

    private void growsUntilYear() {
        doc.says(Doc.TERMS, "the first year (0 .. 30) in which its REACH, from its ROOM, has not a ROOM; NONE.");
        doc.says(20, "GROWS.");
        SillHouse x = Check.housed("h4;w0115;w0126;w0137;w0148;s1235;s1236");
        x.person(10, 0);
        for (int weight = 10; weight <= 53; weight++) {
            x.weigh(0, weight);
            // By these doors all from 10 to 53 come to room 1.
            check.due("grows from " + weight, x.grows(0, 1, 1), weight <= 23 ? -9 : 54 - weight);
            check.due("grows nowhere", x.grows(0, 1, 3), 0);
            check.due("grows where it is", x.grows(0, 1, 0), -9);
        }
        x.weigh(0, 54);
        check.due("in the first year already", x.grows(0, 1, 1), 0);
        x.weigh(0, 33);
        check.due("by two doors", x.grows(0, 1, 2), 6);
        x.weigh(0, 32);
        check.due("only later", x.grows(0, 1, 2), 0);
        check.due("from its room", x.grows(0, 1, 1), 22);
        x.weigh(0, 33);
        x.pass(1, 2);
        x.pass(1, 4);
        check.due("where it has come to", x.grows(0, 1, 2), -9);
        check.due("from where it has come to", x.grows(0, 1, 1), 6);
    }

    private void growsByEach() {
        doc.says(Doc.TERMS, "that weighs g more (0 .. 9) each year:");
        // From room 0 by these doors all from 74 to 114 come to room 1.
        SillHouse x = Check.housed("h2;w0179;w0190;w0199;w1099");
        x.person(75, 0);
        for (int g = 1; g <= 9; g++) {
            int years = 0;
            while (75 + g * years <= 114) {
                years++;
            }
            check.due("grows by " + g, x.grows(0, g, 1), years > 30 ? -9 : years);
        }
        check.due("grows by 0", x.grows(0, 0, 1), -9);
        x.weigh(0, 73);
        for (int g = 0; g <= 9; g++) {
            check.due("never by " + g, x.grows(0, g, 1), 0);
        }
        check.due("grows by 10", x.grows(0, 10, 1), -2);
        check.due("grows by -1", x.grows(0, -1, 1), -2);
        SillHouse gap = Check.housed("h2;s0120;s0130");
        gap.person(20, 0);
        check.due("it could again, but not in the next year", gap.grows(0, 5, 1), 1);
        check.due("it can in the next year, too", gap.grows(0, 9, 1), 2);
    }

    private void growsWithoutStones() {
        doc.says(Doc.TERMS, "GROWS: a PERSON without STONES");
        SillHouse x = Check.housed("h2;s0120");
        x.person(20, 0);
        x.stone(5, 0);
        check.due("with nothing", x.grows(0, 1, 1), 3);
        x.take(0, 0);
        check.due("with a stone", x.grows(0, 1, 1), 3);
        check.due("with a stone, by 0", x.grows(0, 0, 1), -9);
        check.due("what it weighs is as it was", x.ofPerson(0, 0), 20);
    }
}
