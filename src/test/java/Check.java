import java.util.function.IntBinaryOperator;

/** What the tests share: it compares answers with those due, and lays texts and rows into sheets. */
final class Check {
    private final String name;
    private int calls;
    private int wrong;

    Check(String name) {
        this.name = name;
    }

    void due(String call, long got, long want) {
        calls++;
        if (got != want) {
            wrong++;
            System.out.println(name + ": " + call + " answered " + got + ", due is " + want);
        }
    }

    /** The answers to a call with 0, 1, .. as its last argument. */
    void row(String call, IntBinaryOperator ofIndex, int... want) {
        for (int k = 0; k < want.length; k++) {
            due(call + " " + k, ofIndex.applyAsInt(k, 0), want[k]);
        }
    }

    void fault(SillHouse x, String call, int got, int which) {
        due(call, got, -10 - which);
        due(call + ": fault()", x.fault(), which);
    }

    void refused(SillHouse x, String call, int got, int want) {
        due(call, got, want);
        due(call + ": fault()", x.fault(), 0);
    }

    void end() {
        System.out.println(name + ": " + calls + " answers, " + wrong + " not as due");
        if (wrong != 0) {
            System.exit(1);
        }
    }

    static int[] codes(String text) {
        return text.chars().toArray();
    }

    static void lay(SillHouse x, int sheet, int lane, int... cells) {
        x.sheet(sheet, lane, cells.length);
        for (int i = 0; i < cells.length; i++) {
            x.put(sheet, i, cells[i]);
        }
    }

    static int read(SillHouse x, String text) {
        lay(x, 0, 0, codes(text));
        return x.house(0, 0, 0, text.length());
    }

    static SillHouse housed(String text) {
        SillHouse x = new SillHouse();
        if (read(x, text) < 0) {
            throw new IllegalStateException("no text: " + text);
        }
        return x;
    }
}
