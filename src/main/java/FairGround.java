import java.util.Arrays;
import java.util.NoSuchElementException;

/** A fairground's green, its rides, years, text, power and rents, as DOC.md promises them. */
public final class FairGround {
    public static final int NONE = -1;

    private static final int COLUMNS = 12;
    private static final int ROWS = 10;
    private static final int CELLS = 120;
    private static final int PLACES = 240;
    private static final int NO_PLACE = -2;

    // What a CELL holds, as cell() tells it; 0 and above is the RIDE that covers it.
    private static final int OUTSIDE = -3;
    private static final int CLOSED = -2;
    private static final int FREE = -1;

    private static final int MOST_RIDES = 10;
    private static final int MOST_SIZE = 4;
    private static final int MOST_POWER = 100;
    private static final int MOST_NOISE = 9;
    private static final int MOST_RANK = 99;
    private static final int LOUD = 10;
    private static final int LOUD_GAP = 2;

    private static final int POWER_LINES = 3;
    private static final int LINE_COLUMNS = 4;
    private static final int HOLDERS = 3;
    private static final int THOUSAND = 1000;

    private static final int TAPE_LENGTH = 600;
    private static final int TEXT_LINES = 16;
    private static final int DEEPEST_PART = 5;
    private static final int NUMBER_LENGTH = 4;
    // Above every NUMBER, so that a kind and a value share one int of a text's code.
    private static final int KIND_UNIT = 10000;

    // The kinds of tokens; those up to AND are the kinds of a text's code, too.
    private static final int NUMBER = 0;
    private static final int FACT = 1;
    private static final int PLUS = 2;
    private static final int MINUS = 3;
    private static final int LESS = 4;
    private static final int EQUAL = 5;
    private static final int AND = 6;
    private static final int OPENING = 7;
    private static final int CLOSING = 8;
    private static final int SEMICOLON = 9;
    private static final int KEEP = 10;
    private static final int LAPSE = 11;
    private static final int WHEN = 12;
    private static final int END = 13;
    private static final int BAD = 14;

    // The places of the facts that a text can ask for.
    private static final int MISSED = 0;
    private static final int HELD = 1;
    private static final int SICK = 2;
    private static final int RANK = 3;
    private static final int AREA = 4;
    private static final int YEAR = 5;
    private static final int FACTS = 6;

    private static final int FAULT_WRONG = 1;
    private static final int FAULT_TOO_MANY = 5;
    private static final int FAULT_UNIT = 16;

    private final Green green = new Green();
    private final Ride[] rides = new Ride[MOST_RIDES];
    // The same rides, the greater rank first, of one rank by numbers.
    private final Ride[] byRank = new Ride[MOST_RIDES];
    private int rideCount = 0;
    private int year = 0;

    // Where a ride is tried, made once and used again.
    private final Spot trial = new Spot();
    private final Tape tape = new Tape();
    private final Reader reader = new Reader();
    private Law law = new Law();
    // A text is read into this one, so that a faulty text leaves the law in force alone.
    private Law draft = new Law();
    private final int[] facts = new int[FACTS];

    private final int[] lineBears = {100, 100, 100};
    private final int[] shares = {1, 1, 1};
    private int ratePerCell = 1;

    public FairGround() {
    }

    public boolean close(int x, int y, boolean yes) {
        int before = green.at(x, y);
        if (before != FREE && before != CLOSED || green.isGate(x, y) || isDoor(x, y)) {
            return false;
        }
        green.put(x, y, yes ? CLOSED : FREE);
        if (areDoorsJoined()) {
            return true;
        }
        green.put(x, y, before);
        return false;
    }

    public boolean gate(int y) {
        // Nobody lies behind the first test, so a CELL that is not FREE is closed or none.
        if (countLying() > 0 || green.at(0, y) != FREE) {
            return false;
        }
        green.gateRow = y;
        return true;
    }

    public int ride(int width, int height, int power, int noise, int rank) {
        boolean good = isSize(width, height) && isWithin(power, 0, MOST_POWER)
                && isWithin(noise, 0, MOST_NOISE) && isWithin(rank, 0, MOST_RANK);
        if (!good || rideCount >= MOST_RIDES) {
            return NONE;
        }
        Ride added = new Ride(rideCount, width, height, power, noise, rank);
        rides[rideCount] = added;
        int at = rideCount;
        while (at > 0 && byRank[at - 1].rank < rank) {
            byRank[at] = byRank[at - 1];
            at--;
        }
        byRank[at] = added;
        rideCount++;
        return added.number;
    }

    public int fits(int ride, int x, int y, boolean turned) {
        Ride asked = find(ride);
        if (asked == null || asked.lies) {
            return NONE;
        }
        trial.put(asked.width, asked.height, x, y, turned);
        return canLie(asked, trial) ? 1 : 0;
    }

    public boolean lay(int ride, int x, int y, boolean turned) {
        Ride asked = find(ride);
        if (asked == null || asked.lies) {
            return false;
        }
        trial.put(asked.width, asked.height, x, y, turned);
        return layIfItFits(asked);
    }

    public boolean take(int ride) {
        Ride asked = find(ride);
        if (asked == null || !asked.lies) {
            return false;
        }
        takeAway(asked);
        return true;
    }

    public int layAll() {
        for (int n = 0; n < rideCount; n++) {
            Ride next = byRank[n];
            if (!next.lies && next.right != NONE) {
                trial.putAtPlace(next.width, next.height, next.right);
                layIfItFits(next);
            }
        }
        for (int n = 0; n < rideCount; n++) {
            if (!byRank[n].lies) {
                layAtFirstPlace(byRank[n]);
            }
        }
        return rideCount - countLying();
    }

    /**
     * All rows of the RIDES that lie are ORDERS: FITS, close() and gate() keep each DOOR joined to
     * the GATE by CELLS that nobody covers, and from its DOOR a RIDE is one step up. So the way to
     * it is there whoever lies ahead of it.
     */
    public int orders() {
        int rows = 1;
        int lying = countLying();
        for (int n = 2; n <= lying; n++) {
            rows *= n;
        }
        return rows;
    }

    /** The first ORDER is the row by numbers, since every row is one: see orders(). */
    public int order(int i) {
        int ahead = 0;
        for (int n = 0; n < rideCount; n++) {
            if (rides[n].lies) {
                if (ahead == i) {
                    return n;
                }
                ahead++;
            }
        }
        return NONE;
    }

    public boolean sick(int ride) {
        Ride asked = find(ride);
        if (asked == null || asked.isSick || asked.lies) {
            return false;
        }
        asked.isSick = true;
        return true;
    }

    public int end() {
        int lapsed = 0;
        for (int n = 0; n < rideCount; n++) {
            Ride next = rides[n];
            if (next.lies) {
                next.holdOneYearMore();
                takeAway(next);
            } else if (next.right != NONE) {
                next.missed++;
                if (!keepsRight(next)) {
                    next.loseRight();
                    lapsed++;
                }
            }
            next.isSick = false;
        }
        year++;
        return lapsed;
    }

    public int feed(long a, long b, long c) {
        tape.addBytes(a);
        tape.addBytes(b);
        tape.addBytes(c);
        return tape.length;
    }

    public int text() {
        reader.scan(tape);
        tape.wipe();
        int fault = reader.read(draft);
        if (fault == 0) {
            Law old = law;
            law = draft;
            draft = old;
        }
        return fault;
    }

    public boolean bears(int line, int power) {
        if (!isWithin(line, 0, POWER_LINES - 1) || !isWithin(power, 0, THOUSAND)) {
            return false;
        }
        lineBears[line] = power;
        return true;
    }

    public int lit(int ride) {
        Ride asked = find(ride);
        if (asked == null || !asked.lies) {
            return NONE;
        }
        int line = asked.powerLine();
        if (!isWithin(line, 0, POWER_LINES - 1)) {
            return NONE;
        }
        int wanted = powerWanted(line);
        // From its end, byRank is the order in which rides go dark.
        for (int n = rideCount - 1; n >= 0 && wanted > lineBears[line]; n--) {
            if (byRank[n] == asked) {
                return 0;
            }
            if (byRank[n].lies && byRank[n].powerLine() == line) {
                wanted -= byRank[n].power;
            }
        }
        return 1;
    }

    public boolean rate(int r) {
        if (!isWithin(r, 0, THOUSAND)) {
            return false;
        }
        ratePerCell = r;
        return true;
    }

    public boolean share(int holder, int s) {
        if (!isWithin(holder, 0, HOLDERS - 1) || !isWithin(s, 1, THOUSAND)) {
            return false;
        }
        shares[holder] = s;
        return true;
    }

    public int rent(int holder) {
        int all = shares[0] + shares[1] + shares[2];
        if (!isWithin(holder, 0, HOLDERS - 1) || all <= 0) {
            return NONE;
        }
        // The green bears 120 CELLS at most, so sum * share stays below 2 to the 31st.
        int sum = allRents();
        int rest = sum * shares[holder] % all;
        int left = sum;
        int ahead = 0;
        for (int other = 0; other < HOLDERS; other++) {
            left -= sum * shares[other] / all;
            int otherRest = sum * shares[other] % all;
            if (otherRest > rest || otherRest == rest && other < holder) {
                ahead++;
            }
        }
        return sum * shares[holder] / all + (ahead < left ? 1 : 0);
    }

    public int change(int ride, int width, int height, int what) {
        Ride asked = find(ride);
        if (asked == null || !asked.lies || !isSize(width, height) || !isWithin(what, 0, 1)) {
            return NONE;
        }
        int bestPlace = NO_PLACE;
        int bestMoved = NO_PLACE;
        int fewest = MOST_RIDES + 1;
        for (int place = 0; place < PLACES; place++) {
            trial.putAtPlace(width, height, place);
            if (couldGrowTo(asked, trial)) {
                int moved = movedBy(asked, trial);
                if (Integer.bitCount(moved) < fewest) {
                    fewest = Integer.bitCount(moved);
                    bestPlace = place;
                    bestMoved = moved;
                }
            }
        }
        return what == 1 ? bestPlace : bestMoved;
    }

    public int look(int ride, int what) throws NoSuchElementException {
        Ride asked = find(ride);
        if (asked == null) {
            throw new NoSuchElementException("no such ride");
        }
        switch (what) {
            case 0:
                return asked.lies ? 1 : 0;
            case 1:
                return asked.lies ? asked.spot.place() : NONE;
            case 2:
                return asked.lies ? COLUMNS * asked.spot.doorY() + asked.spot.doorX() : NONE;
            case 3:
                return asked.right;
            case 4:
                return asked.held;
            case 5:
                return asked.missed;
            default:
                throw new NoSuchElementException("nothing such to look at");
        }
    }

    public int cell(int x, int y) {
        return green.at(x, y);
    }

    public int count(int what) {
        switch (what) {
            case 0:
                return rideCount;
            case 1:
                return countLying();
            case 2:
                return year;
            case 3:
                return green.countFree();
            case 4:
                return countRights();
            case 5:
                return law.lines;
            case 6:
                return tape.length;
            case 7:
                return allRents();
            default:
                return NONE;
        }
    }

    private static boolean isWithin(int number, int least, int most) {
        return number >= least && number <= most;
    }

    private static boolean isSize(int width, int height) {
        return isWithin(width, 1, MOST_SIZE) && isWithin(height, 1, MOST_SIZE);
    }

    private Ride find(int number) {
        return isWithin(number, 0, rideCount - 1) ? rides[number] : null;
    }

    private int countLying() {
        int lying = 0;
        for (int n = 0; n < rideCount; n++) {
            if (rides[n].lies) {
                lying++;
            }
        }
        return lying;
    }

    private int countRights() {
        int rights = 0;
        for (int n = 0; n < rideCount; n++) {
            if (rides[n].right != NONE) {
                rights++;
            }
        }
        return rights;
    }

    private boolean isDoor(int x, int y) {
        for (int n = 0; n < rideCount; n++) {
            Ride other = rides[n];
            if (other.lies && other.spot.doorX() == x && other.spot.doorY() == y) {
                return true;
            }
        }
        return false;
    }

    private boolean areDoorsJoined() {
        green.spreadFromGate();
        for (int n = 0; n < rideCount; n++) {
            Ride other = rides[n];
            if (other.lies && !green.isReached(other.spot.doorX(), other.spot.doorY())) {
                return false;
            }
        }
        return true;
    }

    private boolean canLie(Ride ride, Spot spot) {
        if (!isClear(spot) || !isClearOfOthers(ride, spot)) {
            return false;
        }
        green.cover(spot, ride.number);
        boolean joined = areDoorsJoined() && green.isReached(spot.doorX(), spot.doorY());
        green.cover(spot, FREE);
        return joined;
    }

    private boolean isClear(Spot spot) {
        return spot.isOnGreen() && !spot.covers(0, green.gateRow) && green.isOpen(spot, true)
                && green.at(spot.doorX(), spot.doorY()) == FREE;
    }

    private boolean isClearOfOthers(Ride ride, Spot spot) {
        for (int n = 0; n < rideCount; n++) {
            Ride other = rides[n];
            if (other.lies) {
                boolean loud = ride.noise + other.noise >= LOUD;
                if (spot.coversDoorOf(other.spot) || loud && !spot.isApartFrom(other.spot)) {
                    return false;
                }
            }
        }
        return true;
    }

    private boolean layIfItFits(Ride ride) {
        if (!canLie(ride, trial)) {
            return false;
        }
        ride.spot.putLike(trial);
        ride.lies = true;
        green.cover(ride.spot, ride.number);
        return true;
    }

    private void layAtFirstPlace(Ride ride) {
        for (int place = 0; place < PLACES; place++) {
            trial.putAtPlace(ride.width, ride.height, place);
            if (layIfItFits(ride)) {
                return;
            }
        }
    }

    private void takeAway(Ride ride) {
        green.cover(ride.spot, FREE);
        ride.lies = false;
    }

    private boolean keepsRight(Ride ride) {
        facts[MISSED] = ride.missed;
        facts[HELD] = ride.held;
        facts[SICK] = ride.isSick ? 1 : 0;
        facts[RANK] = ride.rank;
        facts[AREA] = ride.area();
        facts[YEAR] = year;
        return law.isKept(facts);
    }

    private int powerWanted(int line) {
        int wanted = 0;
        for (int n = 0; n < rideCount; n++) {
            if (rides[n].lies && rides[n].powerLine() == line) {
                wanted += rides[n].power;
            }
        }
        return wanted;
    }

    private int allRents() {
        int sum = 0;
        for (int n = 0; n < rideCount; n++) {
            if (rides[n].lies) {
                sum += rides[n].area() * ratePerCell;
            }
        }
        return sum;
    }

    private boolean couldGrowTo(Ride ride, Spot spot) {
        return spot.isOnGreen() && spot.overlaps(ride.spot) && !spot.covers(0, green.gateRow)
                && green.isOpen(spot, false) && green.at(spot.doorX(), spot.doorY()) != CLOSED;
    }

    private int movedBy(Ride ride, Spot spot) {
        int moved = 0;
        for (int n = 0; n < rideCount; n++) {
            Ride other = rides[n];
            if (other.lies && other != ride && (spot.overlaps(other.spot)
                    || spot.coversDoorOf(other.spot) || other.spot.coversDoorOf(spot))) {
                moved |= 1 << n;
            }
        }
        return moved;
    }

    /** CELLS that a ride covers, or would cover, and the DOOR below them. */
    private static final class Spot {
        int x = 0;
        int y = 0;
        int wide = 1;
        int high = 1;
        boolean turned = false;

        void put(int width, int height, int atX, int atY, boolean isTurned) {
            x = atX;
            y = atY;
            wide = isTurned ? height : width;
            high = isTurned ? width : height;
            turned = isTurned;
        }

        void putAtPlace(int width, int height, int place) {
            int at = place / 2;
            put(width, height, at % COLUMNS, at / COLUMNS, place % 2 == 1);
        }

        void putLike(Spot other) {
            x = other.x;
            y = other.y;
            wide = other.wide;
            high = other.high;
            turned = other.turned;
        }

        int place() {
            return 2 * (COLUMNS * y + x) + (turned ? 1 : 0);
        }

        int doorX() {
            return x + (wide - 1) / 2;
        }

        int doorY() {
            return y + high;
        }

        boolean isOnGreen() {
            // x and y alone come first, since x + wide of any int might wrap around.
            // The DOOR needs one row more.
            return x >= 0 && x < COLUMNS && y >= 0 && y < ROWS
                    && x + wide <= COLUMNS && y + high < ROWS;
        }

        boolean covers(int cellX, int cellY) {
            return cellX >= x && cellX < x + wide && cellY >= y && cellY < y + high;
        }

        boolean coversDoorOf(Spot other) {
            return covers(other.doorX(), other.doorY());
        }

        boolean overlaps(Spot other) {
            return gap(x, wide, other.x, other.wide) < 0 && gap(y, high, other.y, other.high) < 0;
        }

        boolean isApartFrom(Spot other) {
            return gap(x, wide, other.x, other.wide) >= LOUD_GAP
                    || gap(y, high, other.y, other.high) >= LOUD_GAP;
        }

        /** How many columns, or rows, lie between two spans; below 0 if they share one. */
        private static int gap(int from, int length, int otherFrom, int otherLength) {
            return Math.max(otherFrom - (from + length), from - (otherFrom + otherLength));
        }
    }

    private static final class Ride {
        final int number;
        final int width;
        final int height;
        final int power;
        final int noise;
        final int rank;
        final Spot spot = new Spot();
        boolean lies = false;
        boolean isSick = false;
        int right = NONE;
        int held = 0;
        int missed = 0;

        Ride(int number, int width, int height, int power, int noise, int rank) {
            this.number = number;
            this.width = width;
            this.height = height;
            this.power = power;
            this.noise = noise;
            this.rank = rank;
        }

        int area() {
            return width * height;
        }

        int powerLine() {
            return spot.doorX() / LINE_COLUMNS;
        }

        void holdOneYearMore() {
            held++;
            missed = 0;
            right = spot.place();
        }

        void loseRight() {
            right = NONE;
            held = 0;
            missed = 0;
        }
    }

    private static final class Green {
        private final int[] cells = new int[CELLS];
        private final int[] reached = new int[CELLS];
        private final int[] queue = new int[CELLS];
        private int queued = 0;
        int gateRow = 0;

        Green() {
            Arrays.fill(cells, FREE);
        }

        private static boolean hasCell(int x, int y) {
            return x >= 0 && x < COLUMNS && y >= 0 && y < ROWS;
        }

        int at(int x, int y) {
            return hasCell(x, y) ? cells[COLUMNS * y + x] : OUTSIDE;
        }

        void put(int x, int y, int content) {
            if (hasCell(x, y)) {
                cells[COLUMNS * y + x] = content;
            }
        }

        boolean isGate(int x, int y) {
            return x == 0 && y == gateRow;
        }

        void cover(Spot spot, int content) {
            for (int y = spot.y; y < spot.y + spot.high; y++) {
                for (int x = spot.x; x < spot.x + spot.wide; x++) {
                    put(x, y, content);
                }
            }
        }

        /** Whether all CELLS of a spot are open and, where that is wanted, not covered. */
        boolean isOpen(Spot spot, boolean uncovered) {
            for (int y = spot.y; y < spot.y + spot.high; y++) {
                for (int x = spot.x; x < spot.x + spot.wide; x++) {
                    int content = at(x, y);
                    if (content < FREE || uncovered && content != FREE) {
                        return false;
                    }
                }
            }
            return true;
        }

        int countFree() {
            int free = 0;
            for (int content : cells) {
                if (content == FREE) {
                    free++;
                }
            }
            return free;
        }

        /** Finds the CELLS that isReached() tells of until the next time. */
        void spreadFromGate() {
            Arrays.fill(reached, 0);
            queued = 0;
            reach(0, gateRow);
            for (int n = 0; n < queued && n < CELLS; n++) {
                int x = queue[n] % COLUMNS;
                int y = queue[n] / COLUMNS;
                reach(x, y - 1);
                reach(x - 1, y);
                reach(x + 1, y);
                reach(x, y + 1);
            }
        }

        private void reach(int x, int y) {
            if (!hasCell(x, y) || queued >= CELLS) {
                return;
            }
            int cell = COLUMNS * y + x;
            if (cells[cell] == FREE && reached[cell] == 0) {
                reached[cell] = 1;
                queue[queued] = cell;
                queued++;
            }
        }

        boolean isReached(int x, int y) {
            return hasCell(x, y) && reached[COLUMNS * y + x] == 1;
        }
    }

    private static final class Tape {
        private final byte[] signs = new byte[TAPE_LENGTH];
        int length = 0;

        void addBytes(long eight) {
            for (int shift = 56; shift >= 0; shift -= 8) {
                int sign = (int) (eight >>> shift & 255);
                if ((sign == 10 || isWithin(sign, 32, 126)) && length < TAPE_LENGTH) {
                    signs[length] = (byte) sign;
                    length++;
                }
            }
        }

        void wipe() {
            length = 0;
        }

        /** The sign at a place, or 0, which no tape holds, behind the last one. */
        int signAt(int place) {
            return place >= 0 && place < length && place < TAPE_LENGTH ? signs[place] : 0;
        }

        boolean isBlank(int place) {
            return signAt(place) == 10 || signAt(place) == ' ';
        }

        boolean isLetter(int place) {
            return isWithin(signAt(place), 'a', 'z');
        }

        boolean isDigit(int place) {
            return isWithin(signAt(place), '0', '9');
        }

        boolean hasWord(String word, int start, int stop) {
            if (stop - start != word.length()) {
                return false;
            }
            for (int n = 0; n < word.length(); n++) {
                if (signAt(start + n) != word.charAt(n)) {
                    return false;
                }
            }
            return true;
        }
    }

    /** A text that has been read: of each line the verdict and the E, operands ahead of operators. */
    private static final class Law {
        // A left side each of "and", of < or =, and of + or - may wait on each of the five levels
        // for the innermost PART.
        private static final int MOST_WAITING = 3 * DEEPEST_PART + 1;

        private final int[] code = new int[TAPE_LENGTH];
        private int codeLength = 0;
        private final int[] starts = new int[TEXT_LINES];
        private final boolean[] keeps = new boolean[TEXT_LINES];
        private final int[] stack = new int[MOST_WAITING];
        int lines = 0;

        void wipe() {
            codeLength = 0;
            lines = 0;
        }

        void beginLine(boolean isKeeping) {
            if (lines < TEXT_LINES) {
                starts[lines] = codeLength;
                keeps[lines] = isKeeping;
                lines++;
            }
        }

        void add(int kind, int value) {
            if (codeLength < TAPE_LENGTH) {
                code[codeLength] = KIND_UNIT * kind + value;
                codeLength++;
            }
        }

        boolean isKept(int[] facts) {
            for (int line = 0; line < lines && line < TEXT_LINES; line++) {
                int stop = line + 1 < lines && line + 1 < TEXT_LINES ? starts[line + 1] : codeLength;
                if (worth(starts[line], stop, facts) != 0) {
                    return keeps[line];
                }
            }
            return true;
        }

        private int worth(int from, int stop, int[] facts) {
            int height = 0;
            for (int n = from; n >= 0 && n < stop && n < TAPE_LENGTH; n++) {
                int kind = code[n] / KIND_UNIT;
                int value = code[n] % KIND_UNIT;
                if (kind == NUMBER || kind == FACT) {
                    if (height < MOST_WAITING) {
                        stack[height] = kind == NUMBER ? value : factAt(facts, value);
                        height++;
                    }
                } else if (height >= 2) {
                    height--;
                    stack[height - 1] = joined(kind, stack[height - 1], stack[height]);
                }
            }
            return height > 0 ? stack[0] : 0;
        }

        private static int factAt(int[] facts, int place) {
            return place >= 0 && place < facts.length ? facts[place] : 0;
        }

        private static int joined(int kind, int left, int right) {
            switch (kind) {
                case PLUS:
                    return left + right;
                case MINUS:
                    return left - right;
                case LESS:
                    return left < right ? 1 : 0;
                case EQUAL:
                    return left == right ? 1 : 0;
                default:
                    return left != 0 && right != 0 ? 1 : 0;
            }
        }
    }

    /**
     * Cuts a tape into tokens, then reads these as a text. What read() calls answers false at a fault,
     * and all of it stops there: the first token from the left that is wrong counts.
     */
    private static final class Reader {
        // One longer than the tape: the end is a token, too.
        private final int[] kinds = new int[TAPE_LENGTH + 1];
        private final int[] values = new int[TAPE_LENGTH + 1];
        private final int[] places = new int[TAPE_LENGTH + 1];
        private int tokens = 0;
        private int current = 0;
        private int fault = 0;

        void scan(Tape tape) {
            tokens = 0;
            int place = 0;
            while (place < tape.length) {
                int stop = place + 1;
                if (tape.isLetter(place)) {
                    stop = scanWord(tape, place);
                } else if (tape.isDigit(place)) {
                    stop = scanNumber(tape, place);
                } else if (!tape.isBlank(place)) {
                    addToken(kindOfSign(tape.signAt(place)), 0, place);
                }
                place = Math.max(stop, place + 1);
            }
            addToken(END, 0, tape.length);
        }

        private int scanWord(Tape tape, int start) {
            int stop = start;
            while (stop < TAPE_LENGTH && tape.isLetter(stop)) {
                stop++;
            }
            // A WORD that is too long needs no test: like all that the text does not know, it is BAD.
            int fact = factNamed(tape, start, stop);
            if (fact == NONE) {
                addToken(kindOfWord(tape, start, stop), 0, start);
            } else {
                addToken(FACT, fact, start);
            }
            return stop;
        }

        private static int kindOfWord(Tape tape, int start, int stop) {
            if (tape.hasWord("keep", start, stop)) {
                return KEEP;
            }
            if (tape.hasWord("lapse", start, stop)) {
                return LAPSE;
            }
            if (tape.hasWord("when", start, stop)) {
                return WHEN;
            }
            return tape.hasWord("and", start, stop) ? AND : BAD;
        }

        private static int factNamed(Tape tape, int start, int stop) {
            if (tape.hasWord("missed", start, stop)) {
                return MISSED;
            }
            if (tape.hasWord("held", start, stop)) {
                return HELD;
            }
            if (tape.hasWord("sick", start, stop)) {
                return SICK;
            }
            if (tape.hasWord("rank", start, stop)) {
                return RANK;
            }
            if (tape.hasWord("area", start, stop)) {
                return AREA;
            }
            return tape.hasWord("year", start, stop) ? YEAR : NONE;
        }

        private int scanNumber(Tape tape, int start) {
            int stop = start;
            int value = 0;
            while (stop < TAPE_LENGTH && tape.isDigit(stop)) {
                // What is longer is BAD, and its value would not fit in a text's code.
                if (stop - start < NUMBER_LENGTH) {
                    value = 10 * value + tape.signAt(stop) - '0';
                }
                stop++;
            }
            addToken(stop - start > NUMBER_LENGTH ? BAD : NUMBER, value, start);
            return stop;
        }

        private static int kindOfSign(int sign) {
            switch (sign) {
                case '(':
                    return OPENING;
                case ')':
                    return CLOSING;
                case '<':
                    return LESS;
                case '=':
                    return EQUAL;
                case '+':
                    return PLUS;
                case '-':
                    return MINUS;
                case ';':
                    return SEMICOLON;
                default:
                    return BAD;
            }
        }

        private void addToken(int kind, int value, int place) {
            if (tokens <= TAPE_LENGTH) {
                kinds[tokens] = kind;
                values[tokens] = value;
                places[tokens] = place;
                tokens++;
            }
        }

        /** Reads the scanned tokens into a law: 0, or the FAULT. */
        int read(Law law) {
            law.wipe();
            current = 0;
            fault = 0;
            for (int line = 0; line <= TEXT_LINES && kind() != END; line++) {
                if (!readLine(law, line)) {
                    return fault;
                }
            }
            return 0;
        }

        private int kind() {
            return current >= 0 && current < tokens && current <= TAPE_LENGTH ? kinds[current] : END;
        }

        private boolean refuse(int faultKind) {
            if (current >= 0 && current <= TAPE_LENGTH) {
                fault = faultKind + FAULT_UNIT * places[current];
            }
            return false;
        }

        private boolean skip(int wanted) {
            if (kind() != wanted) {
                return refuse(FAULT_WRONG);
            }
            current++;
            return true;
        }

        private boolean readLine(Law law, int line) {
            boolean keeping = kind() == KEEP;
            if (!keeping && kind() != LAPSE) {
                return refuse(FAULT_WRONG);
            }
            if (line >= TEXT_LINES) {
                return refuse(FAULT_TOO_MANY);
            }
            current++;
            law.beginLine(keeping);
            return skip(WHEN) && readTests(law, 0) && skip(SEMICOLON);
        }

        /** E, with its TESTS; depth: how many PARTS it is within. */
        private boolean readTests(Law law, int depth) {
            for (int test = 0; test < TAPE_LENGTH; test++) {
                if (!readSum(law, depth)) {
                    return false;
                }
                int comparison = kind();
                if (comparison == LESS || comparison == EQUAL) {
                    current++;
                    if (!readSum(law, depth)) {
                        return false;
                    }
                    law.add(comparison, 0);
                }
                if (test > 0) {
                    law.add(AND, 0);
                }
                if (kind() != AND) {
                    return true;
                }
                current++;
            }
            return true;
        }

        private boolean readSum(Law law, int depth) {
            if (!readPart(law, depth)) {
                return false;
            }
            for (int n = 0; n < TAPE_LENGTH && (kind() == PLUS || kind() == MINUS); n++) {
                int operator = kind();
                current++;
                if (!readPart(law, depth)) {
                    return false;
                }
                law.add(operator, 0);
            }
            return true;
        }

        private boolean readPart(Law law, int depth) {
            int kind = kind();
            if (kind != NUMBER && kind != FACT && kind != OPENING) {
                return refuse(FAULT_WRONG);
            }
            if (depth >= DEEPEST_PART) {
                return refuse(FAULT_TOO_MANY);
            }
            if (kind == OPENING) {
                current++;
                return readTests(law, depth + 1) && skip(CLOSING);
            }
            // kind() has looked at current: a NUMBER or a FACT is no end of the row.
            law.add(kind, values[current]);
            current++;
            return true;
        }
    }
}
