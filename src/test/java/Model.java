import java.util.ArrayDeque;
import java.util.ArrayList;
import java.util.Arrays;
import java.util.Comparator;
import java.util.HashMap;
import java.util.HashSet;
import java.util.List;
import java.util.Map;
import java.util.Set;
import java.util.TreeSet;

/**
 * The document's definitions taken at their words, by sets of cells and full searches, with nothing
 * kept that can be worked out: slow, and built otherwise than FairGround, so that the two can be
 * held against each other.
 */
final class Model {
    /** What look() answers where FairGround must throw. */
    static final int THROWS = Integer.MIN_VALUE;

    private static final class Lying {
        final Set<Integer> cells = new TreeSet<>();
        final int door;
        final int place;
        final boolean onGreen;

        Lying(int width, int height, int x, int y, boolean turned) {
            int wide = turned ? height : width;
            int high = turned ? width : height;
            boolean all = isCell(x, y);
            for (int dy = 0; all && dy < high; dy++) {
                for (int dx = 0; dx < wide; dx++) {
                    all &= isCell(x + dx, y + dy);
                    cells.add(12 * (y + dy) + x + dx);
                }
            }
            int doorX = x + (wide - 1) / 2;
            onGreen = all && isCell(doorX, y + high);
            door = 12 * (y + high) + doorX;
            place = 2 * (12 * y + x) + (turned ? 1 : 0);
        }
    }

    private static final class Ride {
        int width;
        int height;
        int power;
        int noise;
        int rank;
        Lying lying;
        boolean sick;
        Integer right;
        int held;
        int missed;
    }

    private final List<Ride> rides = new ArrayList<>();
    private final Set<Integer> closed = new HashSet<>();
    private int gateCell = 0;
    private int year = 0;
    private String tape = "";
    private List<List<String>> lines = new ArrayList<>();
    private final int[] bears = {100, 100, 100};
    private final int[] shares = {1, 1, 1};
    private int rate = 1;

    private static boolean isCell(int x, int y) {
        return x >= 0 && x < 12 && y >= 0 && y < 10;
    }

    private boolean has(int ride) {
        return ride >= 0 && ride < rides.size();
    }

    private boolean lies(int ride) {
        return has(ride) && rides.get(ride).lying != null;
    }

    private List<Integer> lying() {
        List<Integer> all = new ArrayList<>();
        for (int n = 0; n < rides.size(); n++) {
            if (lies(n)) {
                all.add(n);
            }
        }
        return all;
    }

    private Set<Integer> covered() {
        Set<Integer> cells = new HashSet<>();
        for (int n : lying()) {
            cells.addAll(rides.get(n).lying.cells);
        }
        return cells;
    }

    private Set<Integer> doors() {
        Set<Integer> cells = new HashSet<>();
        for (int n : lying()) {
            cells.add(rides.get(n).lying.door);
        }
        return cells;
    }

    private Set<Integer> reached(Set<Integer> blocked) {
        Set<Integer> seen = new HashSet<>();
        ArrayDeque<Integer> open = new ArrayDeque<>();
        open.push(gateCell);
        while (!open.isEmpty()) {
            int at = open.pop();
            if (closed.contains(at) || blocked.contains(at) || !seen.add(at)) {
                continue;
            }
            if (at % 12 > 0) {
                open.push(at - 1);
            }
            if (at % 12 < 11) {
                open.push(at + 1);
            }
            if (at >= 12) {
                open.push(at - 12);
            }
            if (at < 108) {
                open.push(at + 12);
            }
        }
        return seen;
    }

    boolean close(int x, int y, boolean yes) {
        int at = 12 * y + x;
        if (!isCell(x, y) || covered().contains(at) || doors().contains(at) || at == gateCell) {
            return false;
        }
        boolean was = closed.contains(at);
        set(at, yes);
        if (reached(covered()).containsAll(doors())) {
            return true;
        }
        set(at, was);
        return false;
    }

    private void set(int at, boolean isClosed) {
        if (isClosed) {
            closed.add(at);
        } else {
            closed.remove(at);
        }
    }

    boolean gate(int y) {
        if (!isCell(0, y) || !lying().isEmpty() || closed.contains(12 * y)) {
            return false;
        }
        gateCell = 12 * y;
        return true;
    }

    int ride(int width, int height, int power, int noise, int rank) {
        boolean good = width >= 1 && width <= 4 && height >= 1 && height <= 4 && power >= 0
                && power <= 100 && noise >= 0 && noise <= 9 && rank >= 0 && rank <= 99;
        if (!good || rides.size() == 10) {
            return -1;
        }
        Ride r = new Ride();
        r.width = width;
        r.height = height;
        r.power = power;
        r.noise = noise;
        r.rank = rank;
        rides.add(r);
        return rides.size() - 1;
    }

    private boolean fits(Ride ride, Lying at) {
        if (!at.onGreen || at.cells.contains(gateCell)) {
            return false;
        }
        Set<Integer> covered = covered();
        Set<Integer> doors = doors();
        for (int c : at.cells) {
            if (covered.contains(c) || closed.contains(c) || doors.contains(c)) {
                return false;
            }
        }
        if (covered.contains(at.door) || closed.contains(at.door)) {
            return false;
        }
        for (int n : lying()) {
            Ride other = rides.get(n);
            if (ride.noise + other.noise >= 10 && !apart(at.cells, other.lying.cells)) {
                return false;
            }
        }
        covered.addAll(at.cells);
        doors.add(at.door);
        return reached(covered).containsAll(doors);
    }

    /** No cell of the one is within two columns and two rows of one of the other. */
    private static boolean apart(Set<Integer> some, Set<Integer> others) {
        for (int a : some) {
            for (int b : others) {
                if (Math.abs(a % 12 - b % 12) <= 2 && Math.abs(a / 12 - b / 12) <= 2) {
                    return false;
                }
            }
        }
        return true;
    }

    int fits(int ride, int x, int y, boolean turned) {
        if (!has(ride) || lies(ride)) {
            return -1;
        }
        Ride r = rides.get(ride);
        return fits(r, new Lying(r.width, r.height, x, y, turned)) ? 1 : 0;
    }

    boolean lay(int ride, int x, int y, boolean turned) {
        if (fits(ride, x, y, turned) != 1) {
            return false;
        }
        Ride r = rides.get(ride);
        r.lying = new Lying(r.width, r.height, x, y, turned);
        return true;
    }

    boolean take(int ride) {
        if (!lies(ride)) {
            return false;
        }
        rides.get(ride).lying = null;
        return true;
    }

    int layAll() {
        List<Integer> row = new ArrayList<>();
        for (int n = 0; n < rides.size(); n++) {
            if (!lies(n)) {
                row.add(n);
            }
        }
        row.sort(Comparator.comparingInt((Integer n) -> -rides.get(n).rank).thenComparingInt(n -> n));
        for (int n : row) {
            Integer right = rides.get(n).right;
            if (right != null) {
                lay(n, right / 2 % 12, right / 24, right % 2 == 1);
            }
        }
        for (int n : row) {
            for (int y = 0; y < 10; y++) {
                for (int x = 0; x < 12; x++) {
                    if (!lies(n) && !lay(n, x, y, false)) {
                        lay(n, x, y, true);
                    }
                }
            }
        }
        return rides.size() - lying().size();
    }

    int orders() {
        return (int) ways(new TreeSet<>(), new HashMap<>());
    }

    private long ways(TreeSet<Integer> ahead, Map<Set<Integer>, Long> known) {
        if (ahead.size() == lying().size()) {
            return 1;
        }
        Long before = known.get(ahead);
        if (before != null) {
            return before;
        }
        long sum = 0;
        for (int n : canPullOn(ahead)) {
            TreeSet<Integer> more = new TreeSet<>(ahead);
            more.add(n);
            sum += ways(more, known);
        }
        known.put(ahead, sum);
        return sum;
    }

    private List<Integer> canPullOn(Set<Integer> ahead) {
        Set<Integer> blocked = new HashSet<>();
        for (int n : ahead) {
            blocked.addAll(rides.get(n).lying.cells);
        }
        Set<Integer> reached = reached(blocked);
        List<Integer> can = new ArrayList<>();
        for (int n : lying()) {
            if (!ahead.contains(n) && rides.get(n).lying.cells.stream().anyMatch(reached::contains)) {
                can.add(n);
            }
        }
        return can;
    }

    int order(int i) {
        List<Integer> row = new ArrayList<>();
        return firstOrder(row) && i >= 0 && i < row.size() ? row.get(i) : -1;
    }

    private boolean firstOrder(List<Integer> row) {
        if (row.size() == lying().size()) {
            return true;
        }
        for (int n : canPullOn(new HashSet<>(row))) {
            row.add(n);
            if (firstOrder(row)) {
                return true;
            }
            row.remove(row.size() - 1);
        }
        return false;
    }

    boolean sick(int ride) {
        if (!has(ride) || lies(ride) || rides.get(ride).sick) {
            return false;
        }
        rides.get(ride).sick = true;
        return true;
    }

    int end() {
        int lapsed = 0;
        for (Ride r : rides) {
            if (r.lying != null) {
                r.held++;
                r.missed = 0;
                r.right = r.lying.place;
            } else if (r.right != null) {
                r.missed++;
                if (!keeps(r)) {
                    r.right = null;
                    r.held = 0;
                    r.missed = 0;
                    lapsed++;
                }
            }
        }
        for (Ride r : rides) {
            r.lying = null;
            r.sick = false;
        }
        year++;
        return lapsed;
    }

    private boolean keeps(Ride r) {
        Map<String, Integer> facts = new HashMap<>();
        facts.put("missed", r.missed);
        facts.put("held", r.held);
        facts.put("sick", r.sick ? 1 : 0);
        facts.put("rank", r.rank);
        facts.put("area", r.width * r.height);
        facts.put("year", year);
        for (List<String> line : lines) {
            if (ModelText.worth(line.subList(2, line.size() - 1), facts) != 0) {
                return line.get(0).equals("keep");
            }
        }
        return true;
    }

    int feed(long a, long b, long c) {
        StringBuilder signs = new StringBuilder(tape);
        for (long part : new long[] {a, b, c}) {
            for (byte sign : java.nio.ByteBuffer.allocate(8).putLong(part).array()) {
                if (sign == 10 || sign >= 32 && sign <= 126) {
                    signs.append((char) sign);
                }
            }
        }
        tape = signs.substring(0, Math.min(600, signs.length()));
        return tape.length();
    }

    int text() {
        ModelText read = new ModelText(tape);
        tape = "";
        if (read.fault == 0) {
            lines = read.lines;
        }
        return read.fault;
    }

    boolean bears(int line, int power) {
        if (line < 0 || line > 2 || power < 0 || power > 1000) {
            return false;
        }
        bears[line] = power;
        return true;
    }

    int lit(int ride) {
        if (!lies(ride)) {
            return -1;
        }
        int line = rides.get(ride).lying.door % 12 / 4;
        List<Integer> lit = lying();
        lit.removeIf(n -> rides.get(n).lying.door % 12 / 4 != line);
        while (lit.stream().mapToInt(n -> rides.get(n).power).sum() > bears[line]) {
            Integer dark = lit.get(0);
            for (Integer n : lit) {
                if (rides.get(n).rank <= rides.get(dark).rank) {
                    dark = n;
                }
            }
            lit.remove(dark);
        }
        return lit.contains(ride) ? 1 : 0;
    }

    boolean rate(int r) {
        if (r < 0 || r > 1000) {
            return false;
        }
        rate = r;
        return true;
    }

    boolean share(int holder, int s) {
        if (holder < 0 || holder > 2 || s < 1 || s > 1000) {
            return false;
        }
        shares[holder] = s;
        return true;
    }

    int rent(int holder) {
        if (holder < 0 || holder > 2) {
            return -1;
        }
        long sum = rents();
        long all = Arrays.stream(shares).sum();
        long[] parts = new long[3];
        long[] rests = new long[3];
        long left = sum;
        for (int h = 0; h < 3; h++) {
            parts[h] = sum * shares[h] / all;
            rests[h] = sum * shares[h] - parts[h] * all;
            left -= parts[h];
        }
        for (; left > 0; left--) {
            int most = 0;
            for (int h = 1; h < 3; h++) {
                if (rests[h] > rests[most]) {
                    most = h;
                }
            }
            parts[most]++;
            rests[most] = -1;
        }
        return (int) parts[holder];
    }

    private int rents() {
        int sum = 0;
        for (int n : lying()) {
            sum += rides.get(n).lying.cells.size() * rate;
        }
        return sum;
    }

    int change(int ride, int width, int height, int what) {
        if (!lies(ride) || width < 1 || width > 4 || height < 1 || height > 4 || what < 0 || what > 1) {
            return -1;
        }
        Set<Integer> now = rides.get(ride).lying.cells;
        int best = -2;
        int bestBits = -2;
        for (int place = 0; place < 240; place++) {
            Lying at = new Lying(width, height, place / 2 % 12, place / 24, place % 2 == 1);
            boolean can = at.onGreen && !at.cells.contains(gateCell) && !closed.contains(at.door)
                    && at.cells.stream().noneMatch(closed::contains)
                    && at.cells.stream().anyMatch(now::contains);
            if (can) {
                int bits = moved(ride, at);
                if (best == -2 || Integer.bitCount(bits) < Integer.bitCount(bestBits)) {
                    best = place;
                    bestBits = bits;
                }
            }
        }
        return what == 0 ? bestBits : best;
    }

    private int moved(int ride, Lying at) {
        int bits = 0;
        for (int n : lying()) {
            Lying other = rides.get(n).lying;
            if (n != ride && (other.cells.stream().anyMatch(at.cells::contains)
                    || at.cells.contains(other.door) || other.cells.contains(at.door))) {
                bits |= 1 << n;
            }
        }
        return bits;
    }

    int look(int ride, int what) {
        if (!has(ride) || what < 0 || what > 5) {
            return THROWS;
        }
        Ride r = rides.get(ride);
        boolean lies = r.lying != null;
        int[] all = {lies ? 1 : 0, lies ? r.lying.place : -1, lies ? r.lying.door : -1,
            r.right == null ? -1 : r.right, r.held, r.missed};
        return all[what];
    }

    int cell(int x, int y) {
        if (!isCell(x, y)) {
            return -3;
        }
        if (closed.contains(12 * y + x)) {
            return -2;
        }
        for (int n : lying()) {
            if (rides.get(n).lying.cells.contains(12 * y + x)) {
                return n;
            }
        }
        return -1;
    }

    int count(int what) {
        if (what < 0 || what > 7) {
            return -1;
        }
        int rights = (int) rides.stream().filter(r -> r.right != null).count();
        int[] all = {rides.size(), lying().size(), year, 120 - closed.size() - covered().size(), rights,
            lines.size(), tape.length(), rents()};
        return all[what];
    }
}
