import java.util.NoSuchElementException;
import java.util.Random;

/** Runs of calls drawn from fixed seeds: FairGround must answer each as Model does, and never throw else. */
public final class ModelTest {
    private static final Check CHECK = new Check();
    private static final int[] FAR = {-1, -2, 10, 11, 12, 13, 100, 1001, Integer.MIN_VALUE,
        Integer.MIN_VALUE + 1, Integer.MAX_VALUE, Integer.MAX_VALUE - 3};
    // An object is used for 512 calls at most: 194 to look at all, 28 for the last text.
    private static final int MOST_CALLS = 512 - 194 - 28;
    private static final int MOST_FED = 27 * 24;

    private final Random random;
    private final FairGround fair = new FairGround();
    private final Model model = new Model();
    private final int seed;
    // What this run is like, how large rides are and how often cells close, so that runs differ:
    // some fill the green with small rides, others leave hardly a place.
    private final int mostSize;
    private final int closing;
    private int calls = 0;

    private ModelTest(int seed) {
        this.seed = seed;
        random = new Random(seed);
        mostSize = 1 + random.nextInt(4);
        closing = random.nextInt(4);
    }

    public static void main(String[] args) {
        int runs = args.length > 0 ? Integer.parseInt(args[0]) : 300;
        for (int seed = 1; seed <= runs; seed++) {
            new ModelTest(seed).run();
        }
        CHECK.finish();
    }

    private void due(String name, long got, long want) {
        calls++;
        CHECK.due("seed " + seed + ", call " + calls + ": " + name, got, want);
    }

    private void run() {
        int first = random.nextInt(11);
        for (int n = 0; n < first; n++) {
            addRide();
        }
        while (calls < MOST_CALLS) {
            try {
                oneCall(random.nextInt(30));
            } catch (RuntimeException thrown) {
                due("thrown: " + thrown, 1, 0);
                return;
            }
        }
        lookAtAll();
        CHECK.yes("seed " + seed + ": 512 calls at most", calls <= 512);
    }

    private int below(int bound) {
        return random.nextInt(20) == 0 ? FAR[random.nextInt(FAR.length)] : random.nextInt(bound);
    }

    private void oneCall(int kind) {
        if (kind < 4) {
            layOrFit();
        } else if (kind < 8) {
            onTheGreen(kind - 4);
        } else if (kind < 12) {
            years(kind - 8);
        } else if (kind < 16) {
            text();
        } else if (kind < 22) {
            money(kind - 16);
        } else {
            questions(kind - 22);
        }
    }

    private void addRide() {
        int width = 1 + below(mostSize);
        int height = 1 + below(mostSize);
        int power = below(101);
        int noise = below(10);
        int rank = random.nextBoolean() ? below(4) : below(100);
        due("ride", fair.ride(width, height, power, noise, rank), model.ride(width, height, power, noise, rank));
    }

    private void layOrFit() {
        int ride = below(10);
        int x = below(12);
        int y = below(10);
        boolean turned = random.nextBoolean();
        String at = "(" + ride + ", " + x + ", " + y + ", " + turned + ")";
        if (random.nextInt(3) == 0) {
            due("fits" + at, fair.fits(ride, x, y, turned), model.fits(ride, x, y, turned));
        } else {
            due("lay" + at, fair.lay(ride, x, y, turned) ? 1 : 0, model.lay(ride, x, y, turned) ? 1 : 0);
        }
    }

    private void onTheGreen(int kind) {
        int x = below(12);
        int y = below(10);
        if (kind == 0 && random.nextInt(4) == 0) {
            due("gate(" + y + ")", fair.gate(y) ? 1 : 0, model.gate(y) ? 1 : 0);
        } else if (kind == 1 && random.nextInt(4) == 0) {
            addRide();
        } else if (kind == 2) {
            due("take(" + x + ")", fair.take(x) ? 1 : 0, model.take(x) ? 1 : 0);
        } else {
            boolean yes = random.nextInt(4) < closing;
            due("close(" + x + ", " + y + ", " + yes + ")", fair.close(x, y, yes) ? 1 : 0, model.close(x, y, yes) ? 1 : 0);
        }
    }

    private void years(int kind) {
        int ride = below(10);
        if (kind == 0 && random.nextInt(3) == 0) {
            due("layAll", fair.layAll(), model.layAll());
        } else if (kind == 1 && random.nextInt(2) == 0) {
            due("end", fair.end(), model.end());
        } else {
            due("sick(" + ride + ")", fair.sick(ride) ? 1 : 0, model.sick(ride) ? 1 : 0);
        }
    }

    private void text() {
        String signs = random.nextInt(6) == 0 ? wild() : lines();
        if (random.nextInt(3) == 0) {
            signs = spoiled(signs);
        }
        for (int at = 0; at < signs.length() && at < MOST_FED; at += 24) {
            long a = Check.eight(signs, at);
            long b = Check.eight(signs, at + 8);
            long c = Check.eight(signs, at + 16);
            due("feed", fair.feed(a, b, c), model.feed(a, b, c));
        }
        if (random.nextInt(8) != 0) {
            due("text of " + signs, fair.text(), model.text());
        }
    }

    private String wild() {
        String[] bits = {"keep", "lapse", "when", "and", "(", ")", "<", "=", "+", "-", ";", "1", "held",
            "missed", "sick", "rank", "area", "year", "12345", "x", "\n", "  ", "A", "\u00e9", "\t", "abcdefghi"};
        StringBuilder signs = new StringBuilder();
        for (int n = random.nextInt(40); n > 0; n--) {
            signs.append(bits[random.nextInt(bits.length)]).append(random.nextInt(3) == 0 ? "" : " ");
        }
        return signs.toString();
    }

    private String lines() {
        StringBuilder signs = new StringBuilder();
        int count = random.nextInt(4) == 0 ? 14 + random.nextInt(4) : random.nextInt(4);
        for (int n = 0; n < count; n++) {
            signs.append(random.nextBoolean() ? "keep when " : "lapse when ");
            signs.append(tests(random.nextInt(8) == 0 ? 6 : 3, count > 8)).append(random.nextBoolean() ? ";" : " ;\n");
        }
        return signs.toString();
    }

    private String tests(int depth, boolean plain) {
        StringBuilder signs = new StringBuilder(test(depth, plain));
        while (!plain && random.nextInt(3) == 0) {
            signs.append(" and ").append(test(depth, false));
        }
        return signs.toString();
    }

    private String test(int depth, boolean plain) {
        if (plain) {
            return random.nextBoolean() ? "0" : "held-1";
        }
        String[] joints = {"<", " = ", "+", " - "};
        StringBuilder signs = new StringBuilder(part(depth));
        for (int joint = random.nextInt(4); joint < 4; joint++) {
            if (random.nextInt(3) != 0 && (joint > 1 || !signs.toString().matches(".*[<=][^)]*"))) {
                signs.append(joints[joint]).append(part(depth));
            }
        }
        return signs.toString();
    }

    private String part(int depth) {
        String[] plain = {"missed", "held", "sick", "rank", "area", "year", "0", "1", "2", "17", "0003"};
        return depth > 0 && random.nextInt(4) == 0 ? "(" + tests(depth - 1, false) + ")"
                : depth > 4 && random.nextInt(3) == 0 ? "((((" + part(0) + "))))"
                : plain[random.nextInt(plain.length)];
    }

    private String spoiled(String signs) {
        if (signs.isEmpty()) {
            return " ";
        }
        String other = "akw09()<=+-; \n*~\u007f\u0001";
        int at = random.nextInt(signs.length());
        String sign = random.nextInt(3) == 0 ? "" : "" + other.charAt(random.nextInt(other.length()));
        return signs.substring(0, at) + sign + signs.substring(at + random.nextInt(2));
    }

    private void money(int kind) {
        int n = below(3);
        int much = random.nextInt(3) == 0 ? below(1001) : below(120);
        if (kind == 0) {
            due("bears", fair.bears(n, much) ? 1 : 0, model.bears(n, much) ? 1 : 0);
        } else if (kind == 1) {
            due("rate", fair.rate(much) ? 1 : 0, model.rate(much) ? 1 : 0);
        } else if (kind == 2) {
            due("share", fair.share(n, much) ? 1 : 0, model.share(n, much) ? 1 : 0);
        } else if (kind == 3) {
            due("rent(" + n + ")", fair.rent(n), model.rent(n));
        } else {
            int ride = below(10);
            due("lit(" + ride + ")", fair.lit(ride), model.lit(ride));
        }
    }

    private void questions(int kind) {
        int ride = below(10);
        int what = below(9);
        if (kind == 0 && random.nextInt(8) == 0) {
            due("orders", fair.orders(), model.orders());
        } else if (kind == 1) {
            due("order(" + ride + ")", fair.order(ride), model.order(ride));
        } else if (kind < 5) {
            int width = 1 + below(4);
            int height = 1 + below(4);
            int which = below(2);
            due("change(" + ride + ", " + width + ", " + height + ", " + which + ")",
                    fair.change(ride, width, height, which), model.change(ride, width, height, which));
        } else if (kind == 5) {
            look(ride, what);
        } else if (kind == 6) {
            due("cell", fair.cell(ride, what), model.cell(ride, what));
        } else {
            due("count(" + what + ")", fair.count(what), model.count(what));
        }
    }

    private void look(int ride, int what) {
        int got;
        try {
            got = fair.look(ride, what);
        } catch (NoSuchElementException none) {
            got = Model.THROWS;
        }
        due("look(" + ride + ", " + what + ")", got, model.look(ride, what));
    }

    private void lookAtAll() {
        for (int what = 0; what < 8; what++) {
            due("count(" + what + ")", fair.count(what), model.count(what));
        }
        for (int ride = 0; ride <= 10; ride++) {
            for (int what = 0; what < 6; what++) {
                look(ride, what);
            }
        }
        for (int y = 0; y < 10; y++) {
            for (int x = 0; x < 12; x++) {
                due("cell(" + x + ", " + y + ")", fair.cell(x, y), model.cell(x, y));
            }
        }
    }
}
