/** 2 of the terms (persons, stones, steps) and promises 4 to 12. */
final class FolkSentences {
    private final Check check;
    private final Doc doc;

    FolkSentences(Check check, Doc doc) {
        this.check = check;
        this.doc = doc;
    }

    void run() {
        fourPersons();
        fourStones();
        twoCarried();
        takes();
        lays();
        parties();
        ofPerson();
        ofStone();
        opensForASet();
        passes();
        weighs();
    }

    private void fourPersons() {
        doc.says(Doc.TERMS, "2 PERSONS, 4 ever, numbered as they come: each weighs so much (10 .. 99) and is in a ROOM.");
        doc.says(4, "A PERSON: its number.");
        for (int weight = 9; weight <= 100; weight++) {
            SillHouse x = Check.housed("h2;s0150");
            boolean is = weight >= 10 && weight <= 99;
            check.due("person of " + weight, x.person(weight, 1), is ? 0 : -2);
            check.due("persons by " + weight, x.many(2), is ? 1 : 0);
        }
        SillHouse x = Check.housed("h4;s0150");
        for (int p = 0; p < 4; p++) {
            check.due("no person yet", x.ofPerson(p, 0), -1);
            check.due("the next person", x.person(20 + p, 3 - p), p);
            check.due("its weight", x.ofPerson(p, 0), 20 + p);
            check.due("its room", x.ofPerson(p, 1), 3 - p);
            check.due("one refused between them takes no number", x.person(100, 0), -2);
        }
        check.due("a fifth", x.person(20, 0), -4);
        check.due("no fifth has come", x.many(2), 4);
        check.due("the fourth is as it was", x.ofPerson(3, 0), 23);
    }

    private void fourStones() {
        doc.says(Doc.TERMS, "STONES, 4 ever, numbered as they come: each weighs so much (1 .. 20), lies in a ROOM or is CARRIED "
                + "(a PERSON CARRIES 2 at most).");
        doc.says(5, "A STONE in a ROOM: its number.");
        for (int weight = 0; weight <= 21; weight++) {
            SillHouse x = Check.housed("h2;s0150");
            boolean is = weight >= 1 && weight <= 20;
            check.due("stone of " + weight, x.stone(weight, 1), is ? 0 : -2);
            check.due("stones by " + weight, x.many(3), is ? 1 : 0);
        }
        SillHouse x = Check.housed("h4;s0150");
        x.person(50, 3);
        for (int s = 0; s < 4; s++) {
            check.due("no stone yet", x.ofStone(s, 0), -1);
            check.due("the next stone", x.stone(5 + s, 3 - s), s);
            check.due("its weight", x.ofStone(s, 0), 5 + s);
            check.due("its room", x.ofStone(s, 1), 3 - s);
            check.due("one refused between them takes no number", x.stone(21, 0), -2);
        }
        check.due("a fifth", x.stone(5, 0), -4);
        check.due("the first is taken", x.take(0, 0), 1);
        check.due("a fifth still, for one that is carried", x.stone(5, 0), -4);
        check.due("no fifth has come", x.many(3), 4);
    }

    private static SillHouse beside(int persons) {
        SillHouse x = Check.housed("h2;w0150");
        for (int p = 0; p < persons; p++) {
            x.person(20, 0);
        }
        for (int s = 0; s < 4; s++) {
            x.stone(1 << s, 0);
        }
        return x;
    }

    private void twoCarried() {
        doc.says(8, "A PERSON TAKES a STONE: how many it CARRIES then.");
        doc.says(9, "A PERSON LAYS a STONE: how many it CARRIES then.");
        for (int one = 0; one < 4; one++) {
            for (int other = 0; other < 4; other++) {
                for (int third = 0; third < 4; third++) {
                    if (one != other && one != third && other != third) {
                        twoOfThree(one, other, third);
                    }
                }
            }
        }
        SillHouse x = beside(2);
        x.take(0, 0);
        x.take(0, 1);
        check.due("two for another", x.take(1, 2), 1);
        check.due("the second for another", x.take(1, 3), 2);
        check.due("what the first carries", x.ofPerson(0, 2), 3);
        check.due("what the other carries", x.ofPerson(1, 2), 12);
    }

    private void twoOfThree(int one, int other, int third) {
        SillHouse x = beside(1);
        check.due("the first", x.take(0, one), 1);
        check.due("the second", x.take(0, other), 2);
        check.due("a third", x.take(0, third), -4);
        check.due("what it carries", x.ofPerson(0, 2), 1 << one | 1 << other);
        check.due("lay the first", x.lay(0, one), 1);
        check.due("the third for it", x.take(0, third), 2);
        check.due("the first again", x.take(0, one), -4);
        check.due("lay the second", x.lay(0, other), 1);
        check.due("lay the third", x.lay(0, third), 0);
        check.due("lay it again", x.lay(0, third), -3);
    }

    private void takes() {
        doc.says(Doc.TERMS, "STEPS: a PERSON TAKES a STONE that lies in the same ROOM;");
        SillHouse x = Check.housed("h3;w0150;w1250");
        x.person(50, 0);
        x.person(50, 0);
        for (int room = 0; room < 3; room++) {
            x.stone(1, room);
        }
        check.due("in the next room", x.take(0, 1), -3);
        check.due("in the last room", x.take(0, 2), -3);
        check.due("in the same room", x.take(0, 0), 1);
        check.due("what it carries itself", x.take(0, 0), -3);
        check.due("what one beside it carries", x.take(1, 0), -3);
        x.pass(1, 0);
        check.due("in the room to which it has come", x.take(0, 1), 2);
        check.due("what was taken along from the room", x.take(1, 0), -3);
        check.due("it carries 2, and that one lies elsewhere", x.take(0, 2), -3);
    }

    private void lays() {
        doc.says(Doc.TERMS, "LAYS one that it CARRIES;");
        SillHouse x = Check.housed("h2;w0150");
        x.person(46, 0);
        x.person(50, 0);
        x.stone(4, 0);
        check.due("what lies beside it", x.lay(0, 0), -3);
        x.take(0, 0);
        check.due("what another carries", x.lay(1, 0), -3);
        x.pass(1, 0);
        check.due("it lies in no room", x.ofStone(0, 1), -20);
        check.due("what it carries", x.lay(0, 0), 0);
        check.due("it lies where it was laid", x.ofStone(0, 1), 1);
        check.due("its weight is less by it", x.ofPerson(0, 3), 46);
        check.due("it is laid already", x.lay(0, 0), -3);
    }

    private void parties() {
        doc.says(Doc.TERMS, "a PARTY (PERSONS in one ROOM) PASSES a DOOR that is there, if it OPENS for all of them with all "
                + "they CARRY: all are on the other side then.");
        for (int party = 1; party < 16; party++) {
            // The persons weigh 11, 12, 14, 18 and carry 1, 2, 4, 8.
            int together = 0;
            for (int p = 0; p < 4; p++) {
                together += (party >> p & 1) * (10 + (2 << p));
            }
            for (int beside = -3; beside <= 3; beside++) {
                int weight = Math.min(99, together + beside);
                partyPasses(party, together, weight);
            }
        }
    }

    private void partyPasses(int party, int together, int weight) {
        SillHouse x = Check.housed("h3;s01" + weight / 10 + weight % 10 + ";s1201");
        for (int p = 0; p < 4; p++) {
            x.person(10 + (1 << p), 0);
            x.stone(1 << p, 0);
            x.take(p, p);
        }
        boolean open = Math.abs(together - weight) <= 2;
        String call = "party " + party + " of " + together + " by " + weight;
        check.due(call + " opens", x.opens(party, 0), open ? 1 : 0);
        check.due(call + " passes", x.pass(party, 0), open ? 1 : -3);
        for (int p = 0; p < 4; p++) {
            boolean gone = open && (party >> p & 1) == 1;
            check.due(call + ": person " + p, x.ofPerson(p, 1), gone ? 1 : 0);
            check.due(call + ": its stone", x.ofStone(p, 1), -20 - p);
        }
    }

    private void ofPerson() {
        doc.says(6, "Of a PERSON: 0 what it weighs, 1 its ROOM, 2 the STONES it CARRIES (a set), 3 what it weighs with them.");
        doc.says(Doc.TERMS, "Sets are told as bits (bit k for number k).");
        for (int set = 0; set < 16; set++) {
            if (Integer.bitCount(set) > 2) {
                continue;
            }
            SillHouse x = beside(4);
            int more = 0;
            for (int s = 0; s < 4; s++) {
                if ((set >> s & 1) == 1) {
                    x.take(3, s);
                    more += 1 << s;
                }
            }
            check.row("of the last person", (what, none) -> x.ofPerson(3, what), 20, 0, set, 20 + more, -2);
            check.row("of the first person", (what, none) -> x.ofPerson(0, what), 20, 0, 0, 20, -2);
        }
    }

    private void ofStone() {
        doc.says(7, "Of a STONE: 0 what it weighs, 1 the ROOM in which it lies; -20 less the PERSON that CARRIES it.");
        SillHouse x = beside(4);
        for (int k = 0; k < 4; k++) {
            int s = k;
            check.row("of one that lies", (what, none) -> x.ofStone(s, what), 1 << k, 0, -2);
            x.take(k, k);
            check.row("of one that is carried", (what, none) -> x.ofStone(s, what), 1 << k, -20 - k, -2);
        }
        x.weigh(3, 42);
        x.pass(8, 0);
        check.due("it comes along", x.ofStone(3, 1), -23);
        x.lay(3, 3);
        check.due("where it was laid", x.ofStone(3, 1), 1);
    }

    private void opensForASet() {
        doc.says(10, "Whether a DOOR OPENS for a PARTY, a set (1, 0).");
        SillHouse x = Check.housed("h2;s0150");
        for (int party : new int[] {0, 1, 16, -1, Integer.MIN_VALUE, Integer.MAX_VALUE}) {
            check.due("nobody yet opens", x.opens(party, 0), -2);
            check.due("nobody yet passes", x.pass(party, 0), -2);
        }
        for (int p = 0; p < 4; p++) {
            check.due("a bit of none yet", x.opens(1 << p, 0), -2);
            check.due("a bit of none yet passes", x.pass(1 << p, 0), -2);
            x.person(p < 2 ? 25 : 50, p == 3 ? 1 : 0);
        }
        int[] due = {-2, 0, 0, 1, 1, 0, 0, 0, 1, -3, -3, -3, -3, -3, -3, -3, -2};
        for (int party = 0; party < due.length; party++) {
            check.due("party " + party, x.opens(party, 0), due[party]);
        }
        check.due("it does not move", x.ofPerson(2, 1), 0);
    }

    private void passes() {
        doc.says(11, "A PARTY PASSES a DOOR: the ROOM in which it is then.");
        SillHouse x = Check.housed("h6;s0550;t5350;w0360");
        x.person(50, 0);
        check.due("by a sill", x.pass(1, 0), 5);
        check.due("where it is", x.ofPerson(0, 1), 5);
        check.due("by a twofold from its first side", x.pass(1, 1), 3);
        check.due("not back", x.pass(1, 1), -3);
        check.due("not by a worn from its second side", x.pass(1, 2), -3);
        check.due("it stays", x.ofPerson(0, 1), 3);
        x.weigh(0, 65);
        check.due("by a worn from its second side", x.pass(1, 2), 0);
        check.due("back by its first side", x.pass(1, 2), 3);
        x.weigh(0, 60);
        check.due("by a twofold from its second side", x.pass(1, 1), 5);
    }

    private void weighs() {
        doc.says(12, "What a PERSON weighs becomes something else (10 .. 99): what it was.");
        SillHouse x = Check.housed("h2;s0150");
        x.person(50, 0);
        x.person(60, 0);
        x.stone(5, 0);
        x.take(0, 0);
        int was = 50;
        for (int weight = 9; weight <= 100; weight++) {
            boolean is = weight >= 10 && weight <= 99;
            check.due("weigh as " + weight, x.weigh(0, weight), is ? was : -2);
            was = is ? weight : was;
            check.due("what it weighs", x.ofPerson(0, 0), was);
        }
        check.due("as it weighs already", x.weigh(0, 99), 99);
        check.due("what it carries", x.ofPerson(0, 3), 104);
        check.due("the other", x.ofPerson(1, 0), 60);
    }
}
