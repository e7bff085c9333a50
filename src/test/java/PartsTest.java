/** Promises 26 to 29: what doors tell, how one rings, of which kinds they are, the trace. */
public final class PartsTest {
    private static final Check CHECK = new Check("PartsTest");

    public static void main(String[] args) {
        tell();
        ring();
        traceWraps();
        as();
        CHECK.end();
    }

    private static int traced(int before, int... bodies) {
        int trace = before;
        for (int body : bodies) {
            trace = 31 * trace + body;
        }
        return trace;
    }

    private static void tell() {
        SillHouse x = Check.housed("h3;s0125;t1237;w2041");
        CHECK.due("no door", x.tell(3), -1);
        CHECK.due("door below", x.tell(-1), -1);
        CHECK.due("no body began", x.trace(), 0);
        CHECK.due("a sill", x.tell(0), 25);
        CHECK.due("its body", x.trace(), 1);
        CHECK.due("a twofold", x.tell(1), 137);
        CHECK.due("its bodies", x.trace(), traced(1, 2, 1));
        CHECK.due("a worn", x.tell(2), 182);
        CHECK.due("its bodies", x.trace(), traced(1, 2, 1, 3, 2, 1, 1));
    }

    private static void ring() {
        SillHouse x = Check.housed("h3;w2041;s0125;t1237");
        CHECK.due("no door", x.ring(3), -1);
        CHECK.due("door below", x.ring(-1), -1);
        CHECK.due("no body began", x.trace(), 0);
        CHECK.due("a worn", x.ring(0), 80);
        CHECK.due("its body", x.trace(), 5);
        CHECK.due("a sill", x.ring(1), 1);
        CHECK.due("the lent body", x.trace(), traced(5, 4));
        CHECK.due("a twofold", x.ring(2), 2);
        CHECK.due("the lent body again", x.trace(), traced(5, 4, 4));
    }

    private static void traceWraps() {
        SillHouse x = Check.housed("h2;w0141");
        int due = 0;
        for (int k = 0; k < 50; k++) {
            x.tell(0);
            due = traced(due, 3, 2, 1, 1);
            CHECK.due("trace", x.trace(), due);
        }
        x.ofDoor(0, 0);
        x.as(0, 2);
        CHECK.due("others leave nothing", x.trace(), due);
    }

    private static void as() {
        SillHouse x = Check.housed("h3;s0125;t1237;w2041");
        for (int d = 0; d < 3; d++) {
            for (int kind = 0; kind < 3; kind++) {
                if (kind <= d) {
                    CHECK.refused(x, d + " as " + kind, x.as(d, kind), 1);
                } else {
                    CHECK.fault(x, d + " as " + kind, x.as(d, kind), 2);
                }
            }
        }
        CHECK.refused(x, "no door", x.as(3, 9), -1);
        CHECK.refused(x, "door below", x.as(-1, 0), -1);
        CHECK.refused(x, "kind below", x.as(0, -1), -2);
        CHECK.refused(x, "kind above", x.as(0, 3), -2);
    }
}
