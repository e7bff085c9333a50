/** 1 of the terms (houses by texts, doors that open) and promises 1 to 3 and 31. */
final class HouseSentences {
    private static final String EIGHT = "h2;s0101;t1002;w0103;s1004;t0105;w1006;s0107;t1008";

    private final Check check;
    private final Doc doc;

    HouseSentences(Check check, Doc doc) {
        this.check = check;
        this.doc = doc;
    }

    void run() {
        newObject();
        roomsByDigit();
        oneToEightDoors();
        sides();
        weights();
        firstFaultIsThePlaceOfTheFirstCode();
        roomsDigits();
        weightOfNoughts();
        ninthDoor();
        endsTooSoon();
        codesOfEachPlace();
        codesAreWhole();
        kinds();
        allAnew();
        againAndAgain();
        sill();
        twofold();
        worn();
        cellsOfASheet();
        ofDoorTellsTheLeastAndTheGreatest();
        howMany();
    }

    // ---- texts

    private void newObject() {
        doc.says(1, "No HOUSE (no ROOMS, DOORS), SHEETS have nothing.");
        SillHouse x = new SillHouse();
        check.row("many of a new object", (what, none) -> x.many(what), 0, 0, 0, 0);
        check.due("no door 0", x.ofDoor(0, 0), -1);
        check.due("no door 0 to tell", x.tell(0), -1);
        check.due("no door 0 to ring", x.ring(0), -1);
        check.due("no door 0 to be taken as a sill", x.as(0, 0), -1);
        check.due("no room 0 for a person", x.person(50, 0), -1);
        check.due("no room 0 for a stone", x.stone(5, 0), -1);
        check.due("no room 0 to reach from", x.reach(50, 0), -1);
        check.due("no room 0 for strangers", x.strangers(0, 0, -1), -1);
        check.due("nobody at door 0", x.opens(1, 0), -2);
        for (int k = 0; k < 4; k++) {
            check.fault(x, "sheet " + k + " has nothing", x.put(k, 0, 1), 1);
            check.fault(x, "sheet " + k + " has no doors heard", x.heard(k, 0, 0, 0), 1);
            check.due("nothing of sheet " + k + " is lost", x.lose(k), 0);
        }
        x.sheet(0, 0, 0);
        check.due("nobody is heard", x.heard(0, 0, 0, 0), 0);
        check.due("no stranger from no room", x.byStrangers(0, 0, 0, 0, 0), -1);
    }

    private void taken(String text, int doors) {
        check.due("text " + text, Check.read(new SillHouse(), text), doors);
    }

    private void firstFault(String text, int place) {
        SillHouse x = new SillHouse();
        check.refused(x, "text " + text, Check.read(x, text), -100 - place);
        check.due("no rooms by " + text, x.many(0), 0);
        check.due("no doors by " + text, x.many(1), 0);
    }

    private void roomsByDigit() {
        doc.says(Doc.TERMS, "1 A HOUSE by a TEXT: h and a digit 2 .. 6 (ROOMS, numbered from 0 on)");
        for (int rooms = 2; rooms <= 6; rooms++) {
            SillHouse x = Check.housed("h" + rooms + ";s" + (rooms - 1) + "050");
            check.due("rooms", x.many(0), rooms);
            check.due("the last room", x.person(50, rooms - 1), 0);
            check.due("one beyond the last room", x.person(50, rooms), -1);
            check.due("the first room", x.stone(5, 0), 0);
        }
        for (char digit : "01789".toCharArray()) {
            firstFault("h" + digit + ";s0150", 1);
        }
    }

    private void oneToEightDoors() {
        doc.says(Doc.TERMS, ", then 1 to 8 DOORS, numbered from 0 on, each: ; and a letter, two digits (two unlike ROOMS: its "
                + "first, its second side), two digits 01 .. 99 (WEIGHT).");
        firstFault("h2", 2);
        for (int doors = 1; doors <= 8; doors++) {
            SillHouse x = new SillHouse();
            check.due("doors", Check.read(x, EIGHT.substring(0, 2 + 6 * doors)), doors);
            check.due("doors then", x.many(1), doors);
            for (int d = 0; d < doors; d++) {
                check.due("weight of door " + d, x.ofDoor(d, 3), d + 1);
                check.due("kind of door " + d, x.ofDoor(d, 0), d % 3);
            }
            check.due("one beyond the last door", x.ofDoor(doors, 3), -1);
        }
        firstFault(EIGHT + ";w0109", 50);
    }

    private void sides() {
        for (int rooms = 2; rooms <= 6; rooms++) {
            for (int first = 0; first < 10; first++) {
                for (int second = 0; second < 10; second++) {
                    side(rooms, first, second);
                }
            }
        }
    }

    private void side(int rooms, int first, int second) {
        String text = "h" + rooms + ";s" + first + second + "50";
        if (first >= rooms) {
            firstFault(text, 4);
        } else if (second >= rooms || second == first) {
            firstFault(text, 5);
        } else {
            SillHouse x = Check.housed(text);
            check.due("first side of " + text, x.ofDoor(0, 1), first);
            check.due("second side of " + text, x.ofDoor(0, 2), second);
        }
    }

    private void weights() {
        for (int weight = 1; weight <= 99; weight++) {
            SillHouse x = Check.housed("h2;w10" + weight / 10 + weight % 10);
            check.due("weight", x.ofDoor(0, 3), weight);
        }
    }

    private void firstFaultIsThePlaceOfTheFirstCode() {
        doc.says(Doc.TERMS, "FIRST FAULT: the place (from 0 on) of the first code with which no TEXT goes on");
        firstFault("x", 0);
        firstFault("hx", 1);
        firstFault("h2x", 2);
        firstFault("h2;x", 3);
        firstFault("h2;sx", 4);
        firstFault("h2;s0x", 5);
        firstFault("h2;s01x", 6);
        firstFault("h2;s015x", 7);
        firstFault("h2;s0150x", 8);
        firstFault("h2;s0150;x", 9);
        firstFault("h9;x9900", 1);
        firstFault("h2;s0150;s0x99x", 11);
        SillHouse x = new SillHouse();
        Check.lay(x, 0, 0, Check.codes("h2;h2;s0150"));
        check.due("a place is told from the text's first code on", x.house(0, 0, 3, 5), -100 - 5);
        check.due("a place is told from the sheet's first cell on, if the text is", x.house(0, 0, 0, 11), -100 - 3);
    }

    private void roomsDigits() {
        doc.says(Doc.TERMS, "(a ROOM's digit that is none, or is the other side's;");
        firstFault("h3;s3150", 4);
        firstFault("h3;s3", 4);
        firstFault("h3;s0350", 5);
        firstFault("h3;s03", 5);
        firstFault("h3;s1150", 5);
        firstFault("h3;s11", 5);
        firstFault("h6;s5550", 5);
        firstFault("h3;s0150;t3150", 10);
        firstFault("h3;s0150;t1150", 11);
    }

    private void weightOfNoughts() {
        doc.says(Doc.TERMS, "of a WEIGHT told as 00, though, its first digit;");
        firstFault("h2;s0100", 6);
        firstFault("h2;s01000", 6);
        firstFault("h2;s0100x", 6);
        firstFault("h2;s0100;s0150", 6);
        firstFault("h2;s0150;w1000", 12);
        firstFault(EIGHT.substring(0, 48) + "00", 48);
        firstFault("h2;s010x", 7);
        firstFault("h2;s01x0", 6);
        firstFault("h2;s010", 7);
        taken("h2;s0110", 1);
        taken("h2;s0101", 1);
    }

    private void ninthDoor() {
        doc.says(Doc.TERMS, "the ; of a ninth DOOR);");
        taken(EIGHT, 8);
        firstFault(EIGHT + ";", 50);
        firstFault(EIGHT + ";s0150", 50);
        firstFault(EIGHT + ";x", 50);
        firstFault(EIGHT + "x", 50);
    }

    private void endsTooSoon() {
        doc.says(Doc.TERMS, "how many codes there are, if it just ends too soon.");
        for (int n = 0; n < EIGHT.length(); n++) {
            if (n < 8 || n % 6 != 2) {
                firstFault(EIGHT.substring(0, n), n);
            }
        }
        firstFault("h2;s010", 7);
        firstFault("h2;s019", 7);
        SillHouse x = new SillHouse();
        Check.lay(x, 0, 0, Check.codes(EIGHT));
        check.due("no codes, amid a text", x.house(0, 0, 4, 0), -100);
        check.due("what follows in the sheet is none of it", x.house(0, 0, 0, 13), -100 - 13);
    }

    private void codesOfEachPlace() {
        doc.says(Doc.TERMS, "(Codes: h 104, s 115, t 116, w 119, ; 59, digits 48 .. 57.)");
        int[] text = {104, 54, 59, 115, 48, 49, 53, 48, 59, 116, 49, 50, 57, 57, 59, 119, 53, 52, 48, 49};
        for (int place = 0; place < text.length; place++) {
            SillHouse x = new SillHouse();
            Check.lay(x, 0, 2, text);
            for (int code = 40; code < 125; code++) {
                x.put(0, place, code);
                int due = faultOf(text, place, code);
                check.due("code " + code + " at " + place, x.house(0, 2, 0, text.length), due < 0 ? 3 : -100 - due);
            }
        }
    }

    /** The first fault of that text of three doors, with another code at a place; -1, if it is a text. */
    private static int faultOf(int[] text, int place, int code) {
        boolean digit = code >= 48 && code <= 57;
        boolean room = code >= 48 && code <= 53;
        switch (place) {
            case 0:
                return code == 104 ? -1 : 0;
            case 1:
                // With fewer rooms, the digits 2 and 5 that follow are none.
                return code < 50 || code > 54 ? 1 : code == 50 ? 11 : code < 54 ? 16 : -1;
            default:
                break;
        }
        switch ((place - 2) % 6) {
            case 0:
                return code == 59 ? -1 : place;
            case 1:
                return code == 115 || code == 116 || code == 119 ? -1 : place;
            case 2:
                return !room ? place : code == text[place + 1] ? place + 1 : -1;
            case 3:
                return !room || code == text[place - 1] ? place : -1;
            case 4:
                return !digit ? place : code == 48 && text[place + 1] == 48 ? place : -1;
            default:
                return !digit ? place : code == 48 && text[place - 1] == 48 ? place - 1 : -1;
        }
    }

    /** A code is a whole number of its lane: none that is alike but for its higher bits is it, unless the lane cuts it. */
    private void codesAreWhole() {
        int[] text = Check.codes("h2;s0150");
        for (int place = 0; place < text.length; place++) {
            for (int beside : new int[] {256, -256, 65536, -65536, 1 << 31}) {
                SillHouse x = new SillHouse();
                for (int lane = 0; lane < 3; lane++) {
                    Check.lay(x, lane, lane, text);
                    x.put(lane, place, text[place] + beside);
                    boolean cut = lane == 0 || lane == 1 && beside % 65536 == 0;
                    check.due(beside + " beside, lane " + lane, x.house(lane, lane, 0, 8), cut ? 1 : -100 - place);
                }
            }
        }
    }

    private void kinds() {
        doc.says(Doc.TERMS, "Kinds: 0 SILL (s); 1 TWOFOLD (t), a SILL; 2 WORN (w), a TWOFOLD.");
        SillHouse x = Check.housed("h2;s0150;t0150;w0150");
        for (int d = 0; d < 3; d++) {
            check.due("kind of door " + d, x.ofDoor(d, 0), d);
            for (int kind = 0; kind < 3; kind++) {
                check.due("door " + d + " as " + kind, x.as(d, kind), kind <= d ? 1 : -12);
            }
        }
    }

    private void allAnew() {
        doc.says(Doc.TERMS, "A TEXT that is taken makes all anew, but for SHEETS and TRACE: no PERSONS, no STONES (numbered "
                + "from 0 on, 4 of each, anew).");
        SillHouse x = Scene.laidOut();
        int trace = x.trace();
        check.due("another text", Check.read(x, "h2;w1005"), 1);
        check.row("many, anew", (what, none) -> x.many(what), 2, 1, 0, 0);
        check.row("the door, anew", (what, none) -> x.ofDoor(0, what), 2, 1, 0, 5, 0, 10, 10, 20);
        check.due("no second door", x.ofDoor(1, 0), -1);
        check.due("no third room", x.reach(50, 2), -1);
        check.due("no person", x.ofPerson(0, 0), -1);
        check.due("no stone", x.ofStone(0, 0), -1);
        check.due("the trace stays", x.trace(), trace);
        check.due("a sheet stays", x.cell(1, 4, 1), 9);
        check.due("another sheet stays", x.cell(2, 0, 2), 100000);
        check.due("one that has nothing stays so", x.cell(3, 0, 0), SillHouse.LOST);
        for (int k = 0; k < 4; k++) {
            check.due("persons, anew", x.person(10 + k, k % 2), k);
            check.due("stones, anew", x.stone(1 + k, k % 2), k);
            check.row("of the person", (what, none) -> x.ofPerson(x.many(2) - 1, what), 10 + k, k % 2, 0, 10 + k);
            check.row("of the stone", (what, none) -> x.ofStone(x.many(3) - 1, what), 1 + k, k % 2);
        }
        check.due("a fifth person", x.person(10, 0), -4);
        check.due("a fifth stone", x.stone(1, 0), -4);
    }

    private void againAndAgain() {
        SillHouse x = Scene.laidOut();
        for (int k = 0; k < 60; k++) {
            check.due("the same text once more", x.house(0, 0, 0, Scene.CELLS), 3);
            check.due("a person once more", x.person(50, 0), 0);
            check.due("a stone once more", x.stone(5, 0), 0);
            check.due("it is taken", x.take(0, 0), 1);
        }
    }

    // ---- doors

    private void sill() {
        doc.says(Doc.TERMS, "A DOOR OPENS for those who stand before it on one side, by what they weigh together: a SILL, if "
                + "that is no more than 2 from WEIGHT;");
        for (int weight = 1; weight <= 99; weight += 7) {
            opensWithin('s', weight, weight, weight, 2);
        }
    }

    private void twofold() {
        doc.says(Doc.TERMS, "a TWOFOLD one likewise, but from its second side WEIGHT is 10 more;");
        for (int weight = 1; weight <= 99; weight += 7) {
            opensWithin('t', weight, weight, weight + 10, 2);
        }
    }

    private void worn() {
        doc.says(Doc.TERMS, "a WORN one as that, but no more than 5 from it.");
        for (int weight = 1; weight <= 99; weight += 7) {
            opensWithin('w', weight, weight, weight + 10, 5);
        }
    }

    /** From side 1 (its first) and side 0 (its second), by one's weight, all that one, or one with a stone, can weigh. */
    private void opensWithin(char letter, int weight, int fromFirst, int fromSecond, int slack) {
        SillHouse x = Check.housed("h2;" + letter + "10" + weight / 10 + weight % 10);
        x.person(10, 1);
        x.person(10, 0);
        for (int together = 10; together <= 99; together++) {
            x.weigh(0, together);
            x.weigh(1, together);
            String call = letter + " of " + weight + " for " + together;
            check.due(call + " from its first side", x.opens(1, 0), Math.abs(together - fromFirst) <= slack ? 1 : 0);
            check.due(call + " from its second side", x.opens(2, 0), Math.abs(together - fromSecond) <= slack ? 1 : 0);
        }
        for (int together = 1; together <= 9; together++) {
            check.due("reach by " + together, x.reach(together, 1), Math.abs(together - fromFirst) <= slack ? 3 : 2);
            check.due("reach by " + together, x.reach(together, 0), Math.abs(together - fromSecond) <= slack ? 3 : 1);
        }
        for (int together = 100; together <= 120; together++) {
            check.due("reach by " + together, x.reach(together, 1), Math.abs(together - fromFirst) <= slack ? 3 : 2);
            check.due("reach by " + together, x.reach(together, 0), Math.abs(together - fromSecond) <= slack ? 3 : 1);
        }
    }

    private void cellsOfASheet() {
        doc.says(2, "A HOUSE by a TEXT of n cells of a SHEET from i on, taken as a row of a LANE: how many DOORS; -100 less "
                + "the FIRST FAULT.");
        for (int lane = 0; lane < 3; lane++) {
            SillHouse x = new SillHouse();
            int k = 3 - lane;
            Check.lay(x, k, lane, Check.codes("h3;s0150h4;t2377;w0199"));
            check.due("the first cells", x.house(k, lane, 0, 8), 1);
            check.due("rooms", x.many(0), 3);
            check.due("the last cells", x.house(k, lane, 8, 14), 2);
            check.due("rooms", x.many(0), 4);
            check.row("its first door", (what, none) -> x.ofDoor(0, what), 1, 2, 3, 77);
            check.row("its second door", (what, none) -> x.ofDoor(1, what), 2, 0, 1, 99);
            check.due("some of the last cells", x.house(k, lane, 8, 8), 1);
            check.due("one cell too many", x.house(k, lane, 8, 15), -13);
            check.due("one cell too early", x.house(k, lane, 7, 8), -100);
            check.due("both texts", x.house(k, lane, 0, 22), -108);
            check.due("the house stays", x.many(0), 4);
        }
        SillHouse full = new SillHouse();
        Check.lay(full, 0, 1, Check.codes("1234567890" + EIGHT));
        check.due("the last cells of a full sheet", full.house(0, 1, 10, 50), 8);
    }

    private void ofDoorTellsTheLeastAndTheGreatest() {
        doc.says(3, "Of a DOOR: 0 kind, 1, 2 its sides (ROOMS), 3 WEIGHT, 4 the least (0 at least), 5 the greatest weight for "
                + "which it OPENS from its first side, 6, 7 from its second one.");
        for (int weight = 1; weight <= 99; weight++) {
            String told = "" + weight / 10 + weight % 10;
            SillHouse x = Check.housed("h6;s34" + told + ";t50" + told + ";w15" + told);
            check.row("a sill of " + told, (what, none) -> x.ofDoor(0, what), 0, 3, 4, weight, Math.max(0, weight - 2),
                    weight + 2, Math.max(0, weight - 2), weight + 2);
            check.row("a twofold of " + told, (what, none) -> x.ofDoor(1, what), 1, 5, 0, weight, Math.max(0, weight - 2),
                    weight + 2, weight + 8, weight + 12);
            check.row("a worn of " + told, (what, none) -> x.ofDoor(2, what), 2, 1, 5, weight, Math.max(0, weight - 5),
                    weight + 5, weight + 5, weight + 15);
        }
    }

    private void howMany() {
        doc.says(31, "How many: 0 ROOMS, 1 DOORS, 2 PERSONS, 3 STONES.");
        SillHouse x = Check.housed("h6;s0150;s0150;s0150;s0150;s0150");
        check.row("many", (what, none) -> x.many(what), 6, 5, 0, 0);
        for (int k = 1; k <= 4; k++) {
            x.person(50, 0);
            check.row("many", (what, none) -> x.many(what), 6, 5, k, k - 1);
            x.stone(5, 0);
            check.row("many", (what, none) -> x.many(what), 6, 5, k, k);
        }
        x.take(0, 0);
        check.due("carried ones count", x.many(3), 4);
    }
}
