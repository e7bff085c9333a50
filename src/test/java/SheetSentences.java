/** 6 of the terms (sheets, parts) and promises 21 to 30. */
final class SheetSentences {
    private final Check check;
    private final Doc doc;

    SheetSentences(Check check, Doc doc) {
        this.check = check;
        this.doc = doc;
    }

    void run() {
        nothingAtFirst();
        rowsOfEachLength();
        cutToItsLane();
        newRow();
        lost();
        puts();
        cellsOfItsLane();
        copies();
        copiesWithin();
        traceBySteps();
        traceWraps();
        sill();
        twofold();
        worn();
        rung();
        takenAsAKind();
    }

    private void nothingAtFirst() {
        doc.says(Doc.TERMS, "6 SHEETS 0 .. 3 have nothing (at first),");
        SillHouse x = new SillHouse();
        check.due("sheet -1", x.lose(-1), -1);
        for (int k = 0; k < 4; k++) {
            check.due("sheet " + k, x.lose(k), 0);
            check.due("its cell 0", x.put(k, 0, 1), -11);
            check.due("its cell 0 in each lane", x.cell(k, 0, k % 3), SillHouse.LOST);
            check.due("is lost by the fault", x.fault(), 1);
        }
        check.due("sheet 4", x.lose(4), -1);
    }

    private void rowsOfEachLength() {
        doc.says(Doc.TERMS, "or a row of 0 .. 60 numbers (0 at first) of a LANE: 0 bytes, 1 shorts, 2 ints;");
        for (int n = 0; n <= 60; n++) {
            SillHouse x = new SillHouse();
            int lane = n % 3;
            check.due("a row of " + n, x.sheet(n % 4, lane, n), 1);
            for (int i = 0; i < n; i++) {
                check.due("0 at first", x.cell(n % 4, i, lane), 0);
            }
            check.due("one beyond the last", x.cell(n % 4, n, lane), SillHouse.LOST);
            check.due("one beyond the last: fault()", x.fault(), 3);
            check.due("no cells, just there", x.copy(n % 4, n, n % 4, n, 0), 0);
        }
        SillHouse x = new SillHouse();
        for (int lane = 0; lane < 3; lane++) {
            check.due("61", x.sheet(lane, lane, 61), -2);
            check.due("60", x.sheet(lane, lane, 60), 1);
            check.due("the last of 60", x.put(lane, 59, 7), 1);
            check.due("one beyond 60", x.put(lane, 60, 7), -13);
        }
    }

    private void cutToItsLane() {
        doc.says(Doc.TERMS, "what comes to a cell of it is cut to its LANE (with its sign).");
        SillHouse x = new SillHouse();
        for (int lane = 0; lane < 3; lane++) {
            x.sheet(lane, lane, 1);
        }
        int[][] cut = {{127, 127, 127}, {128, -128, 128}, {-128, -128, -128}, {-129, 127, -129}, {255, -1, 255}, {256, 0, 256},
            {32767, -1, 32767}, {32768, 0, -32768}, {-32768, 0, -32768}, {-32769, -1, 32767}, {65535, -1, -1}, {65536, 0, 0},
            {Integer.MAX_VALUE, -1, -1}, {Integer.MIN_VALUE, 0, 0}, {-1, -1, -1}, {0, 0, 0}};
        for (int[] row : cut) {
            for (int lane = 0; lane < 3; lane++) {
                check.due("put " + row[0], x.put(lane, 0, row[0]), 1);
                check.due(row[0] + " in lane " + lane, x.cell(lane, 0, lane), lane == 2 ? row[0] : row[1 + lane]);
            }
        }
    }

    private void newRow() {
        doc.says(21, "A SHEET gets a new row: 1.");
        SillHouse x = new SillHouse();
        Check.lay(x, 2, 2, 1, 2, 3, 4, 5);
        check.due("the same again", x.sheet(2, 2, 5), 1);
        check.row("is 0 again", (i, none) -> (int) x.cell(2, i, 2), 0, 0, 0, 0, 0);
        x.put(2, 4, 9);
        check.due("of another lane, shorter", x.sheet(2, 0, 2), 1);
        check.due("of the other lane", x.cell(2, 1, 0), 0);
        check.due("not of the old lane", x.cell(2, 1, 2), SillHouse.LOST);
        check.due("not of the old length", x.put(2, 2, 9), -13);
        check.due("long again", x.sheet(2, 2, 5), 1);
        check.due("0 where it was short", x.cell(2, 4, 2), 0);
        check.due("the other sheets have nothing", x.lose(1) + x.lose(3), 0);
    }

    private void lost() {
        doc.says(22, "A SHEET has nothing: 1; 0: it had nothing.");
        SillHouse x = new SillHouse();
        for (int k = 0; k < 4; k++) {
            x.sheet(k, 0, k);
        }
        for (int k = 0; k < 4; k++) {
            check.due("what it had", x.lose(k), 1);
            check.due("what it has then", x.lose(k), 0);
            check.due("nothing", x.put(k, 0, 1), -11);
            check.due("the next has something", x.put((k + 1) % 4, 9, 1), k == 3 ? -11 : -13);
            check.due("a new row for it", x.sheet(k, 1, 3), 1);
            check.due("is 0", x.cell(k, 2, 1), 0);
            x.lose(k);
        }
    }

    private void puts() {
        doc.says(23, "Cell i of a SHEET becomes v: 1.");
        SillHouse x = new SillHouse();
        for (int k = 0; k < 4; k++) {
            x.sheet(k, 1, 60);
        }
        for (int i = 0; i < 60; i++) {
            check.due("put at " + i, x.put(2, i, 1000 + i), 1);
        }
        for (int i = 0; i < 60; i++) {
            check.due("cell " + i, x.cell(2, i, 1), 1000 + i);
            check.due("cell of another sheet", x.cell(3, i, 1), 0);
        }
        check.due("again", x.put(2, 59, -5), 1);
        check.due("cell then", x.cell(2, 59, 1), -5);
        check.due("cell before it", x.cell(2, 58, 1), 1058);
    }

    private void cellsOfItsLane() {
        doc.says(24, "Cell i of what a SHEET has, taken as a row of a LANE.");
        SillHouse x = new SillHouse();
        for (int k = 0; k < 3; k++) {
            Check.lay(x, k, k, 5, 6, 7);
        }
        for (int k = 0; k < 4; k++) {
            for (int lane = 0; lane < 3; lane++) {
                check.due("cell 2 of " + k + " in lane " + lane, x.cell(k, 2, lane), k == lane ? 7 : SillHouse.LOST);
                check.due("its fault", x.fault(), k == lane ? 0 : k == 3 ? 1 : 2);
            }
        }
        check.due("cell 0", x.cell(1, 0, 1), 5);
        check.due("cell 3", x.cell(1, 3, 1), SillHouse.LOST);
        check.due("cell -1", x.cell(1, -1, 1), SillHouse.LOST);
    }

    private void row(SillHouse x, int k, int lane, int... want) {
        check.row("sheet " + k + ", cell", (i, none) -> (int) x.cell(k, i, lane), want);
    }

    private void copies() {
        doc.says(25, "n cells of a SHEET from i on go to another one (perhaps the same) from j on, as they were: n.");
        for (int lane = 0; lane < 3; lane++) {
            SillHouse x = new SillHouse();
            Check.lay(x, 0, lane, 1, 2, 3, 4, 5);
            Check.lay(x, 3, lane, -1, -2, -3);
            check.due("none", x.copy(0, 5, 3, 3, 0), 0);
            check.due("one", x.copy(0, 4, 3, 2, 1), 1);
            row(x, 3, lane, -1, -2, 5);
            check.due("all of the other", x.copy(3, 0, 0, 2, 3), 3);
            row(x, 0, lane, 1, 2, -1, -2, 5);
            check.due("as many as go", x.copy(0, 0, 3, 0, 3), 3);
            row(x, 3, lane, 1, 2, -1);
            row(x, 0, lane, 1, 2, -1, -2, 5);
            check.due("one more", x.copy(0, 0, 3, 0, 4), -13);
            check.due("one later", x.copy(0, 0, 3, 1, 3), -13);
            check.due("from one later than there are", x.copy(3, 1, 0, 0, 3), -13);
            row(x, 3, lane, 1, 2, -1);
            row(x, 0, lane, 1, 2, -1, -2, 5);
        }
        SillHouse full = new SillHouse();
        full.sheet(0, 2, 60);
        full.sheet(1, 2, 60);
        full.put(0, 59, 1 << 30);
        check.due("sixty", full.copy(0, 0, 1, 0, 60), 60);
        check.due("the last of sixty", full.cell(1, 59, 2), 1 << 30);
    }

    private void copiesWithin() {
        SillHouse x = new SillHouse();
        Check.lay(x, 0, 1, 1, 2, 3, 4, 5);
        check.due("one on", x.copy(0, 0, 0, 1, 4), 4);
        row(x, 0, 1, 1, 1, 2, 3, 4);
        check.due("one back", x.copy(0, 1, 0, 0, 4), 4);
        row(x, 0, 1, 1, 2, 3, 4, 4);
        check.due("where they are", x.copy(0, 0, 0, 0, 5), 5);
        row(x, 0, 1, 1, 2, 3, 4, 4);
    }

    // ---- parts

    private static int traced(int before, int... bodies) {
        int trace = before;
        for (int body : bodies) {
            trace = trace * 31 + body;
        }
        return trace;
    }

    private void traceBySteps() {
        doc.says(Doc.TERMS, "TELLING of DOORS by bodies that leave their number in TRACE (an int that wraps, 0 at first, becomes "
                + "31 times it and the number) as they begin:");
        doc.says(29, "TRACE.");
        SillHouse x = Check.housed("h2;s0125;t0137;w0141");
        check.due("0 at first", x.trace(), 0);
        check.due("0 still", x.trace(), 0);
        x.tell(0);
        check.due("1", x.trace(), 1);
        x.tell(0);
        check.due("31 and 1", x.trace(), 32);
        x.ring(0);
        check.due("31 times 32 and 4", x.trace(), 996);
        x.ofDoor(2, 0);
        x.as(2, 2);
        x.tell(3);
        x.ring(3);
        x.tell(-1);
        check.due("others leave nothing", x.trace(), 996);
    }

    private void traceWraps() {
        SillHouse x = Check.housed("h2;s0125;w0141");
        int due = 0;
        int below = 0;
        for (int k = 0; k < 60; k++) {
            x.tell(k % 2);
            x.ring(k % 2);
            due = k % 2 == 0 ? traced(due, 1, 4) : traced(due, 3, 2, 1, 1, 5);
            below += due < 0 ? 1 : 0;
            check.due("trace", x.trace(), due);
        }
        check.due("it wrapped below 0", below > 10 ? 1 : 0, 1);
    }

    private void sill() {
        doc.says(Doc.TERMS, "SILL (1): WEIGHT.");
        doc.says(26, "TELLING of a DOOR.");
        told("s0101", 1, traced(0, 1));
        told("s0199", 99, traced(0, 1));
    }

    private void twofold() {
        doc.says(Doc.TERMS, "TWOFOLD (2): what SILL's gives, and 100.");
        told("t0101", 101, traced(0, 2, 1));
        told("t0199", 199, traced(0, 2, 1));
    }

    private void worn() {
        doc.says(Doc.TERMS, "WORN (3): what TWOFOLD's gives, and what SILL's gives (TWOFOLD's left out).");
        told("w0101", 102, traced(0, 3, 2, 1, 1));
        told("w0199", 298, traced(0, 3, 2, 1, 1));
    }

    private void told(String door, int telling, int trace) {
        SillHouse x = Check.housed("h2;w0150;" + door + ";t0150");
        check.due("tell " + door, x.tell(1), telling);
        check.due("trace of " + door, x.trace(), trace);
        check.due("one below the first", x.tell(-1), -1);
        check.due("one beyond the last", x.tell(3), -1);
        check.due("trace of " + door + " still", x.trace(), trace);
    }

    private void rung() {
        doc.says(Doc.TERMS, "RUNG at by a lent body (4): the DOOR's number; WORN ones have their own (5): 80.");
        doc.says(27, "How one RINGS at it.");
        SillHouse x = Check.housed("h2;s0101;t1002;w0103;s1004;t0105;w1006;s0107;t1008");
        int trace = 0;
        for (int d = 0; d < 8; d++) {
            check.due("ring " + d, x.ring(d), d % 3 == 2 ? 80 : d);
            trace = traced(trace, d % 3 == 2 ? 5 : 4);
            check.due("trace of " + d, x.trace(), trace);
        }
        check.due("one beyond the last", x.ring(8), -1);
        check.due("one below the first", x.ring(-1), -1);
        check.due("trace still", x.trace(), trace);
    }

    private void takenAsAKind() {
        doc.says(28, "A DOOR, taken as one of a kind: 1.");
        SillHouse x = Check.housed("h2;w0101;t0101;s0101");
        for (int d = 0; d < 3; d++) {
            for (int kind = -1; kind <= 3; kind++) {
                int due = kind < 0 || kind > 2 ? -2 : kind <= 2 - d ? 1 : -12;
                check.due("door " + d + " as " + kind, x.as(d, kind), due);
                check.due("door " + d + " as " + kind + ": fault()", x.fault(), due == -12 ? 2 : 0);
            }
        }
        check.due("no door", x.as(3, 0), -1);
    }
}
