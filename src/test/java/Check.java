import java.util.NoSuchElementException;

/** Counts and prints the answers that are not the ones due. */
final class Check {
    private int wrong = 0;
    private String sentence = "";

    /** The document's words that the next answers are held against; they head what is printed. */
    void sentence(String words) {
        sentence = "[" + words + "] ";
    }

    private void tell(String words) {
        wrong++;
        System.out.println(sentence + words);
    }

    void due(String call, long got, long want) {
        if (got != want) {
            tell(call + " answered " + got + ", due is " + want);
        }
    }

    void same(String call, String got, String want) {
        if (!got.equals(want)) {
            tell(call + ":\n  got " + got + "\n  due " + want);
        }
    }

    void yes(String call, boolean got) {
        due(call, got ? 1 : 0, 1);
    }

    void no(String call, boolean got) {
        due(call, got ? 1 : 0, 0);
    }

    void noSuchElement(FairGround fair, int ride, int what) {
        String call = "look(" + ride + ", " + what + ")";
        try {
            int got = fair.look(ride, what);
            tell(call + " answered " + got + ", due is NoSuchElementException");
        } catch (NoSuchElementException due) {
            // as the document asks
        }
    }

    /** Ends the test: exit code 1 if an answer was wrong. */
    void finish() {
        System.out.println(wrong == 0 ? "all answers are as due" : wrong + " answers are not as due");
        if (wrong != 0) {
            System.exit(1);
        }
    }

    /** Puts a text on the tape, 24 signs a call; the last call's answer. */
    static int feed(FairGround fair, String signs) {
        int length = fair.count(6);
        for (int at = 0; at < signs.length(); at += 24) {
            length = fair.feed(eight(signs, at), eight(signs, at + 8), eight(signs, at + 16));
        }
        return length;
    }

    /** Eight signs as a long, 0 (which the tape leaves out) behind the last. */
    static long eight(String signs, int from) {
        long packed = 0;
        for (int n = from; n < from + 8; n++) {
            packed = packed << 8 | (n < signs.length() ? signs.charAt(n) & 255 : 0);
        }
        return packed;
    }

    /** Reads a text from a tape that was empty. */
    static int text(FairGround fair, String signs) {
        feed(fair, signs);
        return fair.text();
    }
}
