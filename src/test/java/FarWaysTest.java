/**
 * All ways in many houses whose doors ask for more than the person weighs, so that stones have to be fetched: each row
 * of steps, each row of stones to be laid, as the model has them.
 */
public final class FarWaysTest {
    private static final Check CHECK = new Check("FarWaysTest");
    private static final int HOUSES = 1200, MOST_CALLS = 512;
    private static final int FAR = 8;

    private final SillHouse x = new SillHouse();
    private final Model model = new Model();
    private String told;
    private long seed;
    private int used;

    private FarWaysTest(int house) {
        seed = 104729L * house + 5;
    }

    public static void main(String[] args) {
        int[] ways = new int[100];
        int[] laid = new int[3];
        for (int house = 0; house < HOUSES; house++) {
            new FarWaysTest(house).run(ways, laid);
        }
        int far = 0;
        for (int steps = FAR; steps < ways.length; steps++) {
            far += ways[steps];
        }
        CHECK.due("far ways enough", far > 10 ? 1 : 0, 1);
        CHECK.due("ways with one stone laid, with two", Math.min(laid[1], laid[2]) > 100 ? 1 : 0, 1);
        CHECK.end();
    }

    private int next(int bound) {
        seed = seed * 6364136223846793005L + 1442695040888963407L;
        return (int) ((seed >>> 33) % bound);
    }

    private void compare(String call, int got, int want) {
        used++;
        CHECK.due(call + " in " + told, got, want);
    }

    private String text(int rooms, int ground) {
        StringBuilder text = new StringBuilder("h").append(rooms);
        int doors = Math.max(rooms - 1, 1 + next(8));
        for (int d = 0; d < doors; d++) {
            int first = d < rooms - 1 ? d : next(rooms);
            int second = d < rooms - 1 ? d + 1 : (first + 1 + next(rooms - 1)) % rooms;
            boolean turned = next(2) == 0;
            int weight = Math.max(1, Math.min(99, ground + next(45) - 8));
            text.append(';').append("stw".charAt(next(3))).append(turned ? second : first);
            text.append(turned ? first : second).append(weight / 10).append(weight % 10);
        }
        return text.toString();
    }

    private void build(int rooms) {
        int weight = 10 + next(75);
        told = text(rooms, weight);
        compare("sheet", x.sheet(0, 0, told.length()), model.sheet(0, 0, told.length()));
        for (int i = 0; i < told.length(); i++) {
            compare("put", x.put(0, i, told.charAt(i)), model.put(0, i, told.charAt(i)));
        }
        compare("house", x.house(0, 0, 0, told.length()), model.house(0, 0, 0, told.length()));
        compare("person", x.person(weight, 0), model.person(weight, 0));
        compare("person", x.person(weight + 3, 0), model.person(weight + 3, 0));
        for (int s = 0; s < 4; s++) {
            int stone = 1 + next(20);
            int room = next(3) == 0 ? next(rooms) : 0;
            compare("stone", x.stone(stone, room), model.stone(stone, room));
        }
        for (int k = next(4); k > 0; k--) {
            int p = next(2);
            int s = next(4);
            compare("take", x.take(p, s), model.take(p, s));
        }
    }

    private void run(int[] ways, int[] laid) {
        int rooms = 2 + next(5);
        build(rooms);
        for (int p = 0; p < 2; p++) {
            for (int room = 0; room < rooms; room++) {
                int steps = x.fewest(p, room, -1);
                compare("fewest " + p + " " + room, steps, model.fewest(p, room, -1));
                ways[Math.max(0, Math.min(99, steps))]++;
                for (int q = 0; q <= steps && used < MOST_CALLS - 4; q++) {
                    compare("fewest " + p + " " + room + " " + q, x.fewest(p, room, q), model.fewest(p, room, q));
                }
                int stones = x.laid(p, room, -1);
                compare("laid " + p + " " + room, stones, model.laid(p, room, -1));
                laid[Math.max(0, stones)]++;
                for (int q = 0; q < 2; q++) {
                    compare("laid " + p + " " + room + " " + q, x.laid(p, room, q), model.laid(p, room, q));
                }
            }
        }
        CHECK.due("calls of a house, 512 at most", used <= MOST_CALLS ? 1 : 0, 1);
    }
}
