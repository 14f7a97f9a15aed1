import java.nio.charset.StandardCharsets;
import java.util.Arrays;
import java.util.NoSuchElementException;

/** Counts the answers that are not as due, for one test. */
final class Due {
    private int asked;
    private int wrong;

    void same(String what, long want, long got) {
        asked++;
        if (want != got) {
            wrong++;
            System.out.println(what + " answered " + got + ", due is " + want);
        }
    }

    void yes(String what, boolean got) {
        same(what, 1, got ? 1 : 0);
    }

    void no(String what, boolean got) {
        same(what, 0, got ? 1 : 0);
    }

    void none(String what, int got) {
        same(what, -1, got);
    }

    void noSuchElement(String what, BunchTimes x, int rider, int ofWhat) {
        boolean thrown = false;
        try {
            x.of(rider, ofWhat);
        } catch (NoSuchElementException e) {
            thrown = true;
        }
        yes(what + " throws", thrown);
    }

    /** Tells a text; the answer is its FAULT, or minus the number of its STATEMENTS. */
    static int text(BunchTimes x, String text) {
        return text(x, text.getBytes(StandardCharsets.ISO_8859_1));
    }

    static int text(BunchTimes x, byte[] text) {
        feed(x, text);
        int statements = x.tell();
        int fault = x.fault();
        if ((statements == BunchTimes.NONE) == (fault == 0)) {
            throw new AssertionError("tell " + statements + " with fault " + fault);
        }
        return fault == 0 ? -statements : fault;
    }

    static void feed(BunchTimes x, byte[] text) {
        x.end(0);
        byte[] full = Arrays.copyOf(text, (text.length + 19) / 20 * 20);
        for (int i = 0; i < full.length; i += 20) {
            x.feed(four(full, i), four(full, i + 4), four(full, i + 8), four(full, i + 12), four(full, i + 16));
        }
        if (!x.end(text.length)) {
            throw new AssertionError("the text does not fit");
        }
    }

    private static int four(byte[] b, int i) {
        return (b[i] & 255) << 24 | (b[i + 1] & 255) << 16 | (b[i + 2] & 255) << 8 | b[i + 3] & 255;
    }

    void close() {
        System.out.println(wrong == 0 ? asked + " answers are as due" : wrong + " of " + asked + " answers are not as due");
        if (wrong != 0) {
            System.exit(1);
        }
    }
}
