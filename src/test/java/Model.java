import java.util.ArrayList;
import java.util.HashMap;
import java.util.HashSet;
import java.util.List;
import java.util.Map;
import java.util.Set;
import java.util.TreeSet;
import java.util.regex.Matcher;
import java.util.regex.Pattern;

/** The document told a second time, in other ways and without care for speed, to compare answers with. */
final class Model {
    static final int NONE = -9;
    static final long LOST = Long.MIN_VALUE;

    record Door(char kind, int first, int second, int weight) {
        boolean opens(int room, int together) {
            int asked = room == second && kind != 's' ? weight + 10 : weight;
            return (room == first || room == second) && Math.abs(together - asked) <= (kind == 'w' ? 5 : 2);
        }

        int other(int room) {
            return first + second - room;
        }

        int kindNumber() {
            return "stw".indexOf(kind);
        }
    }

    static final class Person {
        int weight;
        int room;
        final Set<Integer> stones = new TreeSet<>();
    }

    static final class Stone {
        int weight;
        int room;
        int holder = -1;
    }

    /** Where a person that goes alone can be: its room, and of each stone the room, or -1 with it, or -2 out of reach. */
    record State(int room, List<Integer> places) {
    }

    int rooms;
    List<Door> doors = new ArrayList<>();
    List<Person> persons = new ArrayList<>();
    List<Stone> stones = new ArrayList<>();
    final Object[] sheets = new Object[4];
    int trace;
    int fault;

    // ---- sheets

    static int length(Object row) {
        return row == null ? -1 : java.lang.reflect.Array.getLength(row);
    }

    static int laneOf(Object row) {
        return row instanceof byte[] ? 0 : row instanceof short[] ? 1 : 2;
    }

    static int at(Object row, int i) {
        return ((Number) java.lang.reflect.Array.get(row, i)).intValue();
    }

    static void set(Object row, int i, int v) {
        if (row instanceof byte[] bytes) {
            bytes[i] = (byte) v;
        } else if (row instanceof short[] shorts) {
            shorts[i] = (short) v;
        } else {
            ((int[]) row)[i] = v;
        }
    }

    private int faulted(int which) {
        fault = which;
        return -10 - which;
    }

    private int cells(int k, int lane, int i, int n) {
        fault = 0;
        if (k < 0 || k > 3) {
            return -1;
        }
        if (lane < 0 || lane > 2) {
            return -2;
        }
        if (sheets[k] != null && laneOf(sheets[k]) != lane) {
            return faulted(2);
        }
        if (sheets[k] == null) {
            return faulted(1);
        }
        if (n < 0) {
            return faulted(4);
        }
        return i < 0 || (long) i + n > length(sheets[k]) ? faulted(3) : 0;
    }

    int sheet(int k, int lane, int n) {
        fault = 0;
        if (k < 0 || k > 3) {
            return -1;
        }
        if (lane < 0 || lane > 2 || n > 60) {
            return -2;
        }
        if (n < 0) {
            return faulted(4);
        }
        sheets[k] = lane == 0 ? new byte[n] : lane == 1 ? new short[n] : new int[n];
        return 1;
    }

    int lose(int k) {
        if (k < 0 || k > 3) {
            return -1;
        }
        int had = sheets[k] == null ? 0 : 1;
        sheets[k] = null;
        return had;
    }

    int put(int k, int i, int v) {
        fault = 0;
        if (k < 0 || k > 3) {
            return -1;
        }
        if (sheets[k] == null) {
            return faulted(1);
        }
        if (i < 0 || i >= length(sheets[k])) {
            return faulted(3);
        }
        set(sheets[k], i, v);
        return 1;
    }

    long cell(int k, int i, int lane) {
        return cells(k, lane, i, 1) != 0 ? LOST : at(sheets[k], i);
    }

    int copy(int k, int i, int other, int j, int n) {
        fault = 0;
        if (k < 0 || k > 3 || other < 0 || other > 3) {
            return -1;
        }
        if (sheets[k] == null || sheets[other] == null) {
            return faulted(1);
        }
        if (laneOf(sheets[k]) != laneOf(sheets[other])) {
            return faulted(2);
        }
        if (i < 0 || j < 0 || n < 0 || (long) i + n > length(sheets[k]) || (long) j + n > length(sheets[other])) {
            return faulted(3);
        }
        int[] moved = new int[n];
        for (int at = 0; at < n; at++) {
            moved[at] = at(sheets[k], i + at);
        }
        for (int at = 0; at < n; at++) {
            set(sheets[other], j + at, moved[at]);
        }
        return n;
    }

    // ---- the house

    private static String textPattern(int rooms) {
        StringBuilder sides = new StringBuilder();
        for (int first = 0; first < rooms; first++) {
            for (int second = 0; second < rooms; second++) {
                if (first != second) {
                    sides.append(sides.length() == 0 ? "" : "|").append(first).append(second);
                }
            }
        }
        return "h" + rooms + "(;[stw](" + sides + ")(0[1-9]|[1-9][0-9])){1,8}";
    }

    private static boolean isText(String told) {
        for (int rooms = 2; rooms <= 6; rooms++) {
            if (told.matches(textPattern(rooms))) {
                return true;
            }
        }
        return false;
    }

    private static boolean beginsSome(String told) {
        for (int rooms = 2; rooms <= 6; rooms++) {
            Matcher matcher = Pattern.compile(textPattern(rooms)).matcher(told);
            if (matcher.matches() || matcher.hitEnd()) {
                return true;
            }
        }
        return false;
    }

    /** -1, if it is a text. */
    static int firstFault(String told) {
        if (isText(told)) {
            return -1;
        }
        for (int n = 1; n <= told.length(); n++) {
            if (!beginsSome(told.substring(0, n))) {
                boolean nought = n >= 8 && (n - 8) % 6 == 0 && told.startsWith("00", n - 2);
                return nought ? n - 2 : n - 1;
            }
        }
        return told.length();
    }

    int house(int sheet, int lane, int i, int n) {
        int refused = cells(sheet, lane, i, n);
        if (refused != 0) {
            return refused;
        }
        StringBuilder told = new StringBuilder();
        for (int at = i; at < i + n; at++) {
            int code = at(sheets[sheet], at);
            told.append(code < 0 || code > 127 ? '?' : (char) code);
        }
        int firstFault = firstFault(told.toString());
        if (firstFault >= 0) {
            return -100 - firstFault;
        }
        rooms = told.charAt(1) - '0';
        doors = new ArrayList<>();
        persons = new ArrayList<>();
        stones = new ArrayList<>();
        for (String door : told.substring(3).split(";")) {
            doors.add(new Door(door.charAt(0), door.charAt(1) - '0', door.charAt(2) - '0',
                    Integer.parseInt(door.substring(3))));
        }
        return doors.size();
    }

    int ofDoor(int d, int what) {
        if (d < 0 || d >= doors.size()) {
            return -1;
        }
        Door door = doors.get(d);
        switch (what) {
            case 0:
                return door.kindNumber();
            case 1:
                return door.first();
            case 2:
                return door.second();
            case 3:
                return door.weight();
            case 4, 6:
                return extreme(door, what == 4 ? door.first() : door.second(), 0, 1);
            case 5, 7:
                return extreme(door, what == 5 ? door.first() : door.second(), 500, -1);
            default:
                return -2;
        }
    }

    private static int extreme(Door door, int side, int from, int by) {
        int weight = from;
        while (!door.opens(side, weight)) {
            weight += by;
        }
        return weight;
    }

    // ---- persons and stones

    int person(int weight, int room) {
        if (room < 0 || room >= rooms) {
            return -1;
        }
        if (weight < 10 || weight > 99) {
            return -2;
        }
        if (persons.size() == 4) {
            return -4;
        }
        Person person = new Person();
        person.weight = weight;
        person.room = room;
        persons.add(person);
        return persons.size() - 1;
    }

    int stone(int weight, int room) {
        if (room < 0 || room >= rooms) {
            return -1;
        }
        if (weight < 1 || weight > 20) {
            return -2;
        }
        if (stones.size() == 4) {
            return -4;
        }
        Stone stone = new Stone();
        stone.weight = weight;
        stone.room = room;
        stones.add(stone);
        return stones.size() - 1;
    }

    private boolean isPerson(int p) {
        return p >= 0 && p < persons.size();
    }

    private boolean isStone(int s) {
        return s >= 0 && s < stones.size();
    }

    private boolean isRoom(int room) {
        return room >= 0 && room < rooms;
    }

    private boolean isDoor(int d) {
        return d >= 0 && d < doors.size();
    }

    private int together(Person person) {
        return person.weight + person.stones.stream().mapToInt(s -> stones.get(s).weight).sum();
    }

    int ofPerson(int p, int what) {
        if (!isPerson(p)) {
            return -1;
        }
        Person person = persons.get(p);
        switch (what) {
            case 0:
                return person.weight;
            case 1:
                return person.room;
            case 2:
                return person.stones.stream().mapToInt(s -> 1 << s).sum();
            case 3:
                return together(person);
            default:
                return -2;
        }
    }

    int ofStone(int s, int what) {
        if (!isStone(s)) {
            return -1;
        }
        Stone stone = stones.get(s);
        if (what == 0) {
            return stone.weight;
        }
        return what == 1 ? stone.holder < 0 ? stone.room : -20 - stone.holder : -2;
    }

    int take(int p, int s) {
        if (!isPerson(p) || !isStone(s)) {
            return -1;
        }
        Person person = persons.get(p);
        Stone stone = stones.get(s);
        if (stone.holder >= 0 || stone.room != person.room) {
            return -3;
        }
        if (person.stones.size() == 2) {
            return -4;
        }
        stone.holder = p;
        person.stones.add(s);
        return person.stones.size();
    }

    int lay(int p, int s) {
        if (!isPerson(p) || !isStone(s)) {
            return -1;
        }
        Person person = persons.get(p);
        if (!person.stones.remove(s)) {
            return -3;
        }
        stones.get(s).holder = -1;
        stones.get(s).room = person.room;
        return person.stones.size();
    }

    private List<Person> party(int party) {
        List<Person> all = new ArrayList<>();
        for (int bit = 0; bit < 32; bit++) {
            if ((party >> bit & 1) == 1) {
                if (!isPerson(bit)) {
                    return List.of();
                }
                all.add(persons.get(bit));
            }
        }
        return all;
    }

    int opens(int party, int d) {
        List<Person> all = party(party);
        if (all.isEmpty()) {
            return -2;
        }
        if (!isDoor(d)) {
            return -1;
        }
        Door door = doors.get(d);
        int room = all.get(0).room;
        boolean oneRoom = all.stream().allMatch(person -> person.room == room);
        if (!oneRoom || room != door.first() && room != door.second()) {
            return -3;
        }
        return door.opens(room, all.stream().mapToInt(this::together).sum()) ? 1 : 0;
    }

    int pass(int party, int d) {
        int open = opens(party, d);
        if (open != 1) {
            return open == 0 ? -3 : open;
        }
        int to = doors.get(d).other(party(party).get(0).room);
        party(party).forEach(person -> person.room = to);
        return to;
    }

    int weigh(int p, int weight) {
        if (!isPerson(p)) {
            return -1;
        }
        if (weight < 10 || weight > 99) {
            return -2;
        }
        int was = persons.get(p).weight;
        persons.get(p).weight = weight;
        return was;
    }

    // ---- ways

    private static int compareRows(List<Integer> one, List<Integer> other) {
        for (int k = 0; k < one.size() && k < other.size(); k++) {
            if (!one.get(k).equals(other.get(k))) {
                return one.get(k) - other.get(k);
            }
        }
        return one.size() - other.size();
    }

    private static List<Integer> with(List<Integer> row, int at, int value) {
        List<Integer> changed = new ArrayList<>(row);
        if (at == row.size()) {
            changed.add(value);
        } else {
            changed.set(at, value);
        }
        return changed;
    }

    private Map<Integer, State> steps(State state, int weight, List<Integer> weights) {
        Map<Integer, State> next = new HashMap<>();
        int together = weight;
        int carried = 0;
        for (int s = 0; s < weights.size(); s++) {
            if (state.places().get(s) == -1) {
                together += weights.get(s);
                carried++;
                next.put(10 + s, new State(state.room(), with(state.places(), s, state.room())));
            }
        }
        for (int s = 0; s < weights.size() && carried < 2; s++) {
            if (state.places().get(s) == state.room()) {
                next.put(s, new State(state.room(), with(state.places(), s, -1)));
            }
        }
        for (int d = 0; d < doors.size(); d++) {
            if (doors.get(d).opens(state.room(), together)) {
                next.put(20 + d, new State(doors.get(d).other(state.room()), state.places()));
            }
        }
        return next;
    }

    /** The first of the fewest rows of steps, level by level, with all rows compared; null, if there is none. */
    private List<Integer> way(State start, int weight, List<Integer> weights, int goal) {
        Map<State, List<Integer>> level = new HashMap<>();
        level.put(start, List.of());
        Set<State> met = new HashSet<>(level.keySet());
        while (!level.isEmpty()) {
            List<Integer> best = null;
            for (Map.Entry<State, List<Integer>> entry : level.entrySet()) {
                if (entry.getKey().room() == goal && (best == null || compareRows(entry.getValue(), best) < 0)) {
                    best = entry.getValue();
                }
            }
            if (best != null) {
                return best;
            }
            Map<State, List<Integer>> next = new HashMap<>();
            for (Map.Entry<State, List<Integer>> entry : level.entrySet()) {
                List<Integer> row = entry.getValue();
                steps(entry.getKey(), weight, weights).forEach((step, state) -> {
                    if (!met.contains(state)) {
                        next.merge(state, with(row, row.size(), step), (a, b) -> compareRows(a, b) < 0 ? a : b);
                    }
                });
            }
            met.addAll(next.keySet());
            level = next;
        }
        return null;
    }

    int fewest(int p, int room, int q) {
        if (!isPerson(p) || !isRoom(room) || q < -1) {
            return -1;
        }
        List<Integer> weights = new ArrayList<>();
        List<Integer> places = new ArrayList<>();
        for (Stone stone : stones) {
            weights.add(stone.weight);
            places.add(stone.holder < 0 ? stone.room : stone.holder == p ? -1 : -2);
        }
        List<Integer> way = way(new State(persons.get(p).room, places), persons.get(p).weight, weights, room);
        if (way == null) {
            return NONE;
        }
        return q == -1 ? way.size() : q < way.size() ? way.get(q) : NONE;
    }

    private void spread(int weight, int room, Set<Integer> reached) {
        if (!reached.add(room)) {
            return;
        }
        for (Door door : doors) {
            if (door.opens(room, weight)) {
                spread(weight, door.other(room), reached);
            }
        }
    }

    private boolean reaches(int weight, int from, int to) {
        Set<Integer> reached = new TreeSet<>();
        spread(weight, from, reached);
        return reached.contains(to);
    }

    int reach(int weight, int room) {
        if (!isRoom(room)) {
            return -1;
        }
        if (weight < 1 || weight > 999) {
            return -2;
        }
        Set<Integer> reached = new TreeSet<>();
        spread(weight, room, reached);
        return reached.stream().mapToInt(r -> 1 << r).sum();
    }

    int strangers(int from, int to, int k) {
        if (!isRoom(from) || !isRoom(to) || k < -1) {
            return -1;
        }
        List<Integer> all = new ArrayList<>();
        for (int weight = 10; weight < 100; weight++) {
            if (reaches(weight, from, to)) {
                all.add(weight);
            }
        }
        return k == -1 ? all.size() : k < all.size() ? all.get(k) : NONE;
    }

    private boolean comesBy(int p, int room, List<Integer> weights) {
        int at = persons.get(p).room;
        return way(new State(at, weights.stream().map(w -> at).toList()), persons.get(p).weight, weights, room) != null;
    }

    private List<Integer> laidRow(int p, int room) {
        if (comesBy(p, room, List.of())) {
            return List.of();
        }
        for (int one = 1; one <= 20; one++) {
            if (comesBy(p, room, List.of(one))) {
                return List.of(one);
            }
        }
        for (int one = 1; one <= 20; one++) {
            for (int other = one; other <= 20; other++) {
                if (comesBy(p, room, List.of(one, other))) {
                    return List.of(one, other);
                }
            }
        }
        return null;
    }

    int laid(int p, int room, int q) {
        if (!isPerson(p) || !isRoom(room) || q < -1 || q > 1) {
            return -1;
        }
        if (!persons.get(p).stones.isEmpty()) {
            return -3;
        }
        List<Integer> row = laidRow(p, room);
        if (row == null) {
            return NONE;
        }
        return q == -1 ? row.size() : q < row.size() ? row.get(q) : NONE;
    }

    int guest(int p, int room) {
        if (!isPerson(p) || !isRoom(room)) {
            return -1;
        }
        int best = 999;
        for (int change = -30; change <= 30; change++) {
            int weight = persons.get(p).weight + change;
            if (weight >= 1 && reaches(weight, persons.get(p).room, room) && Math.abs(change) < Math.abs(best)) {
                best = change;
            }
        }
        return best == 999 ? NONE : 100 + best;
    }

    private boolean follows(int weight, int room, List<Integer> heard) {
        if (heard.isEmpty()) {
            return true;
        }
        Door door = doors.get(heard.get(0));
        return door.opens(room, weight) && follows(weight, door.other(room), heard.subList(1, heard.size()));
    }

    /** null, if one of the cells is no door. */
    private List<Integer> doorsAt(int sheet, int i, int n) {
        List<Integer> heard = new ArrayList<>();
        for (int at = i; at < i + n; at++) {
            if (!isDoor(at(sheets[sheet], at))) {
                return null;
            }
            heard.add(at(sheets[sheet], at));
        }
        return heard;
    }

    int heard(int sheet, int lane, int i, int n) {
        int refused = cells(sheet, lane, i, n);
        if (refused != 0) {
            return refused;
        }
        List<Integer> heard = doorsAt(sheet, i, n);
        if (heard == null) {
            return -1;
        }
        int set = 0;
        for (int p = 0; p < persons.size(); p++) {
            set += follows(together(persons.get(p)), persons.get(p).room, heard) ? 1 << p : 0;
        }
        return set;
    }

    int byStrangers(int room, int sheet, int lane, int i, int n) {
        fault = 0;
        if (!isRoom(room)) {
            return -1;
        }
        int refused = cells(sheet, lane, i, n);
        if (refused != 0) {
            return refused;
        }
        List<Integer> heard = doorsAt(sheet, i, n);
        if (heard == null) {
            return -1;
        }
        int count = 0;
        for (int weight = 10; weight < 100; weight++) {
            count += follows(weight, room, heard) ? 1 : 0;
        }
        return count;
    }

    int grows(int p, int g, int room) {
        if (!isPerson(p) || !isRoom(room)) {
            return -1;
        }
        if (g < 0 || g > 9) {
            return -2;
        }
        for (int year = 0; year < 31; year++) {
            if (!reaches(persons.get(p).weight + g * year, persons.get(p).room, room)) {
                return year;
            }
        }
        return NONE;
    }

    // ---- parts

    private void begin(int... bodies) {
        for (int body : bodies) {
            trace = trace * 31 + body;
        }
    }

    int tell(int d) {
        if (!isDoor(d)) {
            return -1;
        }
        Door door = doors.get(d);
        if (door.kind() == 's') {
            begin(1);
            return door.weight();
        }
        if (door.kind() == 't') {
            begin(2, 1);
            return door.weight() + 100;
        }
        begin(3, 2, 1, 1);
        return 2 * door.weight() + 100;
    }

    int ring(int d) {
        if (!isDoor(d)) {
            return -1;
        }
        boolean worn = doors.get(d).kind() == 'w';
        begin(worn ? 5 : 4);
        return worn ? 80 : d;
    }

    int as(int d, int kind) {
        fault = 0;
        if (!isDoor(d)) {
            return -1;
        }
        if (kind < 0 || kind > 2) {
            return -2;
        }
        return kind > doors.get(d).kindNumber() ? faulted(2) : 1;
    }

    int many(int what) {
        int[] counts = {rooms, doors.size(), persons.size(), stones.size()};
        return what < 0 || what > 3 ? -2 : counts[what];
    }
}
