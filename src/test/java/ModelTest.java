/** Many runs of calls, made by a counter that always counts alike, answered as the model answers them. */
public final class ModelTest {
    private static final Check CHECK = new Check("ModelTest");
    private static final int RUNS = 2000;
    // What an object answers after its 512th call is free; one round of a run takes 130 calls at the most.
    private static final int LAST_ROUND = 512 - 130;

    private final SillHouse x = new SillHouse();
    private final Model model = new Model();
    private final StringBuilder calls = new StringBuilder();
    private long seed;
    private int used;

    private ModelTest(int run) {
        seed = 7919L * run + 17;
    }

    public static void main(String[] args) {
        int[] taken = new int[2];
        for (int run = 0; run < RUNS; run++) {
            new ModelTest(run).run(taken);
        }
        CHECK.due("texts enough were taken", taken[0] > RUNS ? 1 : 0, 1);
        CHECK.due("texts enough were not", taken[1] > RUNS / 4 ? 1 : 0, 1);
        CHECK.end();
    }

    private int next(int bound) {
        seed = seed * 6364136223846793005L + 1442695040888963407L;
        return (int) ((seed >>> 33) % bound);
    }

    /** Mostly 0 .. most, sometimes beside it or far from it. */
    private int upTo(int most) {
        int luck = next(40);
        if (luck == 0) {
            return -1 - next(2);
        }
        if (luck == 1) {
            return most + 1 + next(2);
        }
        if (luck == 2 && next(6) == 0) {
            return next(2) == 0 ? Integer.MAX_VALUE : Integer.MIN_VALUE;
        }
        return next(most + 1);
    }

    private String text(int ground) {
        int rooms = 2 + next(5);
        StringBuilder told = new StringBuilder("h").append(rooms);
        for (int d = 1 + next(8); d > 0; d--) {
            int first = next(rooms);
            int second = (first + 1 + next(rooms - 1)) % rooms;
            int weight = Math.min(99, Math.max(1, ground + next(25) - 6));
            told.append(';').append("stw".charAt(next(3))).append(first).append(second);
            told.append(weight / 10).append(weight % 10);
        }
        if (next(3) == 0) {
            int at = next(told.length());
            switch (next(4)) {
                case 0 -> told.setCharAt(at, ";stwh0123456789:/".charAt(next(17)));
                case 1 -> told.setLength(at);
                case 2 -> told.append(";s01".charAt(next(4)));
                default -> told.setCharAt(at, '0');
            }
        }
        return told.toString();
    }

    private void compare(String call, long got, long want) {
        calls.append(call).append(' ');
        CHECK.due(call, got, want);
        if (got != want) {
            System.out.println("  after " + calls);
        }
        CHECK.due(call + " fault", x.fault(), model.fault);
        CHECK.due(call + " trace", x.trace(), model.trace);
        used += 3;
    }

    private void newHouse(int ground, int[] taken) {
        String told = text(ground);
        int lane = next(3);
        compare("sheet", x.sheet(0, lane, told.length()), model.sheet(0, lane, told.length()));
        for (int i = 0; i < told.length(); i++) {
            CHECK.due("put", x.put(0, i, told.charAt(i)), model.put(0, i, told.charAt(i)));
            used++;
        }
        int doors = x.house(0, lane, 0, told.length());
        compare("house " + told, doors, model.house(0, lane, 0, told.length()));
        taken[doors > 0 ? 0 : 1]++;
        for (int n = 0; n < 5; n++) {
            populate(ground);
        }
    }

    private void populate(int ground) {
        int weight = Math.min(99, Math.max(10, ground + next(20) - 10));
        int room = upTo(5);
        compare("person", x.person(weight, room), model.person(weight, room));
        int stone = 1 + next(20);
        int there = upTo(5);
        compare("stone", x.stone(stone, there), model.stone(stone, there));
    }

    private void run(int[] taken) {
        int ground = 5 + next(80);
        newHouse(ground, taken);
        while (used <= LAST_ROUND) {
            if (x.many(1) == 0 || next(40) == 0) {
                newHouse(ground, taken);
            }
            used++;
            switch (next(5)) {
                case 0 -> sheets();
                case 1 -> folk();
                case 2 -> ways();
                case 3 -> parts();
                default -> moves();
            }
        }
        CHECK.due("calls of a run, 512 at most", used <= 512 ? 1 : 0, 1);
    }

    private void moves() {
        int a = upTo(3);
        int b = upTo(3);
        int party = next(4) == 0 ? upTo(15) : 1 << next(4);
        int d = upTo(7);
        compare("take " + a + " " + b, x.take(a, b), model.take(a, b));
        if (next(3) == 0) {
            compare("lay " + a + " " + b, x.lay(a, b), model.lay(a, b));
        }
        compare("opens " + party + " " + d, x.opens(party, d), model.opens(party, d));
        compare("pass " + party + " " + d, x.pass(party, d), model.pass(party, d));
    }

    private void folk() {
        int a = upTo(3);
        int b = upTo(3);
        int weight = 8 + next(95);
        switch (next(5)) {
            case 0 -> compare("person", x.person(weight, b), model.person(weight, b));
            case 1 -> compare("stone", x.stone(weight % 23, b), model.stone(weight % 23, b));
            case 2 -> compare("ofPerson " + a + " " + b, x.ofPerson(a, b), model.ofPerson(a, b));
            case 3 -> compare("ofStone " + a + " " + b % 2, x.ofStone(a, b % 2), model.ofStone(a, b % 2));
            default -> compare("weigh " + a + " " + weight, x.weigh(a, weight), model.weigh(a, weight));
        }
    }

    private void ways() {
        int p = upTo(3);
        int room = upTo(5);
        int q = upTo(6) - 1;
        int g = upTo(9);
        int weight = next(20) == 0 ? upTo(1000) : upTo(110);
        switch (next(6)) {
            case 0 -> compare("reach", x.reach(weight, room), model.reach(weight, room));
            case 1 -> compare("strangers", x.strangers(g, room, q), model.strangers(g, room, q));
            case 2 -> compare("laid " + p + " " + room + " " + q % 2, x.laid(p, room, q % 2), model.laid(p, room, q % 2));
            case 3 -> compare("guest " + p + " " + room, x.guest(p, room), model.guest(p, room));
            case 4 -> compare("grows " + p + " " + g + " " + room, x.grows(p, g, room), model.grows(p, g, room));
            default -> {
                for (int step = -1; step < 7; step++) {
                    compare("fewest " + p + " " + room + " " + step, x.fewest(p, room, step), model.fewest(p, room, step));
                }
            }
        }
    }

    private void sheets() {
        int k = 1 + upTo(2);
        int lane = upTo(2);
        int i = upTo(8);
        int j = upTo(8);
        int n = upTo(8);
        int room = upTo(5);
        switch (next(9)) {
            case 0 -> compare("sheet", x.sheet(k, lane, n), model.sheet(k, lane, n));
            case 1 -> compare("lose", x.lose(k), model.lose(k));
            case 2 -> compare("copy", x.copy(k, i, lane + 1, j, n), model.copy(k, i, lane + 1, j, n));
            case 3 -> compare("cell", x.cell(k, i, lane), model.cell(k, i, lane));
            case 4 -> compare("house", x.house(0, lane, i, n), model.house(0, lane, i, n));
            case 5 -> compare("heard", x.heard(k, lane, i, n), model.heard(k, lane, i, n));
            case 6 -> compare("byStrangers", x.byStrangers(room, k, lane, i, n), model.byStrangers(room, k, lane, i, n));
            case 7 -> hear(room, 1 + next(5));
            default -> compare("put", x.put(k, i, j), model.put(k, i, j));
        }
    }

    private void hear(int room, int n) {
        compare("sheet", x.sheet(2, 0, n), model.sheet(2, 0, n));
        for (int i = 0; i < n; i++) {
            int d = next(Math.max(1, model.many(1)));
            compare("put", x.put(2, i, d), model.put(2, i, d));
        }
        for (int m = 0; m <= n; m++) {
            compare("heard", x.heard(2, 0, 0, m), model.heard(2, 0, 0, m));
            compare("byStrangers", x.byStrangers(room, 2, 0, 0, m), model.byStrangers(room, 2, 0, 0, m));
        }
    }

    private void parts() {
        int d = upTo(7);
        int what = upTo(7);
        switch (next(5)) {
            case 0 -> compare("tell", x.tell(d), model.tell(d));
            case 1 -> compare("ring", x.ring(d), model.ring(d));
            case 2 -> compare("as", x.as(d, what % 4), model.as(d, what % 4));
            case 3 -> compare("many", x.many(what), model.many(what));
            default -> compare("ofDoor", x.ofDoor(d, what), model.ofDoor(d, what));
        }
    }
}
