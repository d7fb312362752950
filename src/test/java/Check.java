import java.nio.charset.StandardCharsets;
import java.util.NoSuchElementException;
import java.util.function.LongSupplier;

/** Counts wrong answers, and tells a text to an object by feeding it. */
final class Check {
    /** Stand for what was thrown, where an answer is due. */
    static final long NO_ELEMENT = Long.MIN_VALUE;
    static final long BAD_ARGUMENT = Long.MIN_VALUE + 1;

    private int wrong;

    void due(String name, long want, LongSupplier call) {
        long got;
        try {
            got = call.getAsLong();
        } catch (NoSuchElementException e) {
            got = NO_ELEMENT;
        } catch (IllegalArgumentException e) {
            got = BAD_ARGUMENT;
        }
        if (got != want) {
            wrong++;
            System.out.println(name + " answered " + shown(got) + ", due is " + shown(want));
        }
    }

    private static String shown(long answer) {
        return answer == NO_ELEMENT ? "NoSuchElementException"
                : answer == BAD_ARGUMENT ? "IllegalArgumentException" : Long.toString(answer);
    }

    void end(String name) {
        System.out.println(name + ": " + (wrong == 0 ? "all as due" : wrong + " wrong"));
        if (wrong != 0) {
            System.exit(1);
        }
    }

    /** Feeds a text, filled up with bytes that no text may have, so that reading on past its end shows. */
    static int feed(SummerPictures x, String text) {
        byte[] bytes = text.getBytes(StandardCharsets.ISO_8859_1);
        int fed = 0;
        for (int from = 0; from < bytes.length; from += 20) {
            int[] words = new int[5];
            for (int i = 0; i < 20; i++) {
                int b = from + i < bytes.length ? bytes[from + i] & 255 : 0;
                words[i / 4] = words[i / 4] << 8 | b;
            }
            fed = x.feed(words[0], words[1], words[2], words[3], words[4]);
        }
        return fed;
    }

    static int summer(SummerPictures x, String text) {
        feed(x, text);
        return x.summer(text.length());
    }

    static int law(SummerPictures x, String text) {
        feed(x, text);
        return x.law(text.length());
    }

    static int work(SummerPictures x, String text) {
        feed(x, text);
        return x.work(text.length());
    }

    static int clocks(SummerPictures x, String text) {
        feed(x, text);
        return x.clocks(text.length());
    }
}
