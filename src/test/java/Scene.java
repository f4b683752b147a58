import java.util.function.ToIntFunction;

/** Fairs with something in every corner of their state, and a trace of all that can be asked of one. */
final class Scene {
    /** No int of the answers: look() threw. */
    static final int THROWN = Integer.MIN_VALUE;

    private Scene() {
    }

    /**
     * The YEAR 1, the gate in row 3, nine rides: 0 to 5 lie, two on each line of power, one of them
     * lit and one dark; 6, 7 and 2 have rights; 6 is sick; 8 has nothing. Closing 10, 6 would cut off
     * the door of 5. A text of two lines is in force, "keep " is on the tape.
     */
    static FairGround full() {
        FairGround fair = new FairGround();
        fair.gate(3);
        int[][] rides = {{1, 1, 60, 0, 5}, {1, 1, 60, 1, 9}, {2, 2, 50, 2, 1}, {3, 1, 70, 3, 2}, {1, 2, 30, 4, 3},
            {2, 1, 30, 5, 3}, {2, 2, 10, 2, 50}, {1, 1, 20, 3, 51}, {4, 4, 0, 9, 52}};
        for (int[] r : rides) {
            fair.ride(r[0], r[1], r[2], r[3], r[4]);
        }
        fair.lay(6, 5, 5, false);
        fair.lay(7, 8, 7, true);
        fair.lay(2, 1, 6, false);
        fair.end();
        fair.lay(0, 1, 0, false);
        fair.lay(1, 3, 0, false);
        fair.lay(2, 4, 4, false);
        fair.lay(3, 6, 1, false);
        fair.lay(4, 9, 4, false);
        fair.lay(5, 11, 4, true);
        fair.close(11, 7, true);
        fair.sick(6);
        fair.bears(1, 80);
        fair.bears(2, 45);
        fair.rate(7);
        fair.share(1, 3);
        fair.share(2, 5);
        Check.text(fair, "keep when sick; lapse when 0 < missed;");
        Check.feed(fair, "keep ");
        return fair;
    }

    /** As full(), but the YEAR has ended, and 0, 7 is closed. */
    static FairGround nobodyLies() {
        FairGround fair = full();
        fair.end();
        fair.close(0, 7, true);
        return fair;
    }

    static FairGround tenRides() {
        FairGround fair = full();
        fair.ride(1, 1, 1, 1, 1);
        return fair;
    }

    static FairGround tapeFull() {
        FairGround fair = full();
        fair.text();
        long words = Check.eight("keep whe", 0);
        for (int n = 0; n < 25; n++) {
            fair.feed(words, words, words);
        }
        return fair;
    }

    static void closeAllBut(FairGround fair, int[][] open) {
        for (int y = 0; y < 10; y++) {
            for (int x = 0; x < 12; x++) {
                boolean kept = false;
                for (int[] cell : open) {
                    kept |= cell[0] == x && cell[1] == y;
                }
                if (!kept) {
                    fair.close(x, y, true);
                }
            }
        }
    }

    /**
     * What a fair answers to questions, then to calls that bring to light what no question tells: who
     * is sick, where the gate is, what the text says. 330 calls; the fair is used up then.
     */
    static String trace(FairGround fair) {
        StringBuilder answers = new StringBuilder();
        for (int y = 0; y < 10; y++) {
            answers.append("\n  row ").append(y).append(':');
            for (int x = 0; x < 12; x++) {
                answers.append(' ').append(fair.cell(x, y));
            }
        }
        int rides = fair.count(0);
        row(answers, "count", 8, fair::count);
        rideByRide(answers, rides, fair);
        row(answers, "lit", rides, fair::lit);
        row(answers, "rent", 3, fair::rent);
        row(answers, "order", rides, fair::order);
        row(answers, "orders", 1, n -> fair.orders());
        row(answers, "change", rides, n -> fair.change(n, 2, 3, 0));
        row(answers, "change", rides, n -> fair.change(n, 2, 3, 1));
        row(answers, "sick", rides, n -> fair.sick(n) ? 1 : 0);
        row(answers, "close", 10, n -> fair.close(0, n, true) ? 1 : 0);
        row(answers, "end", 1, n -> fair.end());
        rideByRide(answers, rides, fair);
        row(answers, "text", 1, n -> fair.text());
        return answers.toString();
    }

    private interface Answer {
        int at(int n);
    }

    private static void row(StringBuilder answers, String name, int length, Answer answer) {
        answers.append("\n  ").append(name).append(':');
        for (int n = 0; n < length; n++) {
            answers.append(' ').append(answer.at(n));
        }
    }

    private static void rideByRide(StringBuilder answers, int rides, FairGround fair) {
        for (int ride = 0; ride < rides; ride++) {
            int number = ride;
            row(answers, "look at " + ride, 6, what -> fair.look(number, what));
        }
    }

    /** One call and what it must answer; a boolean counts 1 or 0. */
    static int answer(FairGround fair, ToIntFunction<FairGround> call) {
        try {
            return call.applyAsInt(fair);
        } catch (java.util.NoSuchElementException thrown) {
            return THROWN;
        }
    }
}
