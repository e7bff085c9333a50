/**
 * A house in which every refusal and every fault can be come to, and all that can be seen of it.
 * Rooms 0, 1, 2; a sill 0-1, a twofold door 1-2, a worn one 2-0. Person 0 carries stones 0 and 1; stones 2 and 3 lie
 * beside it, and person 1 is there, too. Sheet 0 has the text, in bytes, 1 has six shorts, 2 has four ints, 3 nothing.
 */
final class Scene {
    static final String TEXT = "h3;s0130;t1240;w2050";
    static final int CELLS = TEXT.length();

    private Scene() {
    }

    /** The latest call that names a fault came to SIZE, so that a call that tells of none can be seen. */
    static SillHouse laidOut() {
        SillHouse x = Check.housed(TEXT);
        x.person(30, 0);
        x.person(20, 0);
        x.person(40, 1);
        x.person(99, 2);
        x.stone(10, 0);
        x.stone(5, 0);
        x.stone(7, 0);
        x.stone(1, 0);
        x.take(0, 0);
        x.take(0, 1);
        Check.lay(x, 1, 1, 0, 1, 2, 0, 9, -1);
        Check.lay(x, 2, 2, 100000, -1, 2, 3);
        x.tell(2);
        x.sheet(3, 0, -1);
        return x;
    }

    /** What all calls that change nothing tell, but for fault(). */
    static String seen(SillHouse x) {
        StringBuilder told = new StringBuilder();
        for (int what = 0; what < 4; what++) {
            told.append(x.many(what)).append(' ');
        }
        for (int d = 0; d < x.many(1); d++) {
            for (int what = 0; what < 8; what++) {
                told.append(x.ofDoor(d, what)).append(' ');
            }
        }
        for (int k = 0; k < 4; k++) {
            for (int what = 0; what < 4; what++) {
                told.append(x.ofPerson(k, what)).append(' ').append(x.ofStone(k, what)).append(' ');
            }
        }
        for (int k = 0; k < 4; k++) {
            cells(x, k, told);
        }
        return told.append(x.trace()).toString();
    }

    private static void cells(SillHouse x, int k, StringBuilder told) {
        for (int lane = 0; lane < 3; lane++) {
            int i = 0;
            for (long cell = x.cell(k, i, lane); cell != SillHouse.LOST; cell = x.cell(k, i, lane)) {
                told.append(cell).append(' ');
                i++;
            }
            told.append("lane ").append(lane).append(" fault ").append(x.fault()).append("; ");
        }
    }
}
