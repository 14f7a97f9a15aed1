import java.nio.charset.StandardCharsets;
import java.util.Arrays;
import java.util.NoSuchElementException;
import java.util.function.Predicate;
import java.util.function.Supplier;
import java.util.function.ToIntFunction;

/** Counts the answers that are not as due, for one test. */
final class Due {
    private int asked;
    private int wrong;
    private int sentences;
    private String sentence = "";

    /** A test of its own for one sentence of the document: what it finds wrong is told under those words. */
    void sentence(String words, Runnable test) {
        int before = asked;
        sentence = "[" + words + "] ";
        test.run();
        yes("asks something", asked > before);
        sentence = "";
        sentences++;
    }

    void same(String what, long want, long got) {
        asked++;
        if (want != got) {
            wrong++;
            System.out.println(sentence + what + " answered " + got + ", due is " + want);
        }
    }

    void sameText(String what, String want, String got) {
        asked++;
        if (!want.equals(got)) {
            wrong++;
            System.out.println(sentence + what + " answered\n" + got + "\ndue is\n" + want);
        }
    }

    /** That a call is refused, and that all behind it is as on an object on which it was not made. */
    void refused(String what, int want, Supplier<BunchTimes> ready, ToIntFunction<BunchTimes> call) {
        BunchTimes x = ready.get();
        same(what, want, call.applyAsInt(x));
        sameText(what + ": behind it all", Answers.revealed(ready.get()), Answers.revealed(x));
    }

    /** That two races answer alike, each part of it asked of objects made for that. */
    void sameRace(String what, Supplier<BunchTimes> want, Supplier<BunchTimes> got) {
        int parts = 2 + want.get().count(4);
        for (int part = 0; part < parts; part++) {
            sameText(what + ", part " + part, Answers.part(want.get(), part), Answers.part(got.get(), part));
        }
    }

    void refused(String what, Supplier<BunchTimes> ready, Predicate<BunchTimes> call) {
        refused(what, 0, ready, x -> call.test(x) ? 1 : 0);
    }

    void refusedNone(String what, Supplier<BunchTimes> ready, ToIntFunction<BunchTimes> call) {
        refused(what, BunchTimes.NONE, ready, call);
    }

    void yes(String what, boolean got) {
        same(what, 1, got ? 1 : 0);
    }

    void no(String what, boolean got) {
        same(what, 0, got ? 1 : 0);
    }

    void none(String what, int got) {
        same(what, -1, got);
    }

    void noSuchElement(String what, BunchTimes x, int rider, int ofWhat) {
        boolean thrown = false;
        try {
            x.of(rider, ofWhat);
        } catch (NoSuchElementException e) {
            thrown = true;
        }
        yes(what + " throws", thrown);
    }

    /** Tells a text; the answer is its FAULT, or minus the number of its STATEMENTS. */
    static int text(BunchTimes x, String text) {
        return text(x, text.getBytes(StandardCharsets.ISO_8859_1));
    }

    static int text(BunchTimes x, byte[] text) {
        feed(x, text);
        int statements = x.tell();
        int fault = x.fault();
        if ((statements == BunchTimes.NONE) == (fault == 0)) {
            throw new AssertionError("tell " + statements + " with fault " + fault);
        }
        return fault == 0 ? -statements : fault;
    }

    static void feed(BunchTimes x, byte[] text) {
        x.end(0);
        byte[] full = Arrays.copyOf(text, (text.length + 19) / 20 * 20);
        for (int i = 0; i < full.length; i += 20) {
            x.feed(four(full, i), four(full, i + 4), four(full, i + 8), four(full, i + 12), four(full, i + 16));
        }
        if (!x.end(text.length)) {
            throw new AssertionError("the text does not fit");
        }
    }

    private static int four(byte[] b, int i) {
        return (b[i] & 255) << 24 | (b[i + 1] & 255) << 16 | (b[i + 2] & 255) << 8 | b[i + 3] & 255;
    }

    void close() {
        String of = sentences == 0 ? "" : " in the tests of " + sentences + " sentences";
        System.out.println((wrong == 0 ? asked + " answers are as due" : wrong + " of " + asked + " answers are not as due") + of);
        if (wrong != 0) {
            System.exit(1);
        }
    }
}
