import java.nio.charset.StandardCharsets;
import java.util.NoSuchElementException;

/** What the tests of the project share: feeding texts, and counting answers that are not due. */
final class Check {
    private static int right = 0;
    private static int wrong = 0;

    private Check() {
    }

    static void due(String call, long got, long want) {
        if (got == want) {
            right++;
            return;
        }
        wrong++;
        System.out.println(call + " answered " + got + ", due is " + want);
    }

    static void due(String call, boolean got, boolean want) {
        due(call, got ? 1 : 0, want ? 1 : 0);
    }

    /** Puts a text on the tape, instead of what is there. */
    static void tape(HushWatch watch, String text) {
        watch.end(0);
        byte[] bytes = text.getBytes(StandardCharsets.ISO_8859_1);
        for (int at = 0; at < bytes.length; at += 20) {
            watch.feed(number(bytes, at), number(bytes, at + 4), number(bytes, at + 8),
                    number(bytes, at + 12), number(bytes, at + 16));
        }
    }

    private static int number(byte[] bytes, int at) {
        int number = 0;
        for (int i = at; i < at + 4; i++) {
            number = number << 8 | (i < bytes.length ? bytes[i] & 255 : 0);
        }
        return number;
    }

    static HushWatch watch(String text) {
        HushWatch watch = new HushWatch();
        tape(watch, text);
        if (watch.text(0) < 2) {
            throw new IllegalArgumentException("a test's own text is no watch: " + text);
        }
        return watch;
    }

    static int script(HushWatch watch, String text) {
        tape(watch, text);
        return watch.text(1);
    }

    static void faultDue(int sort, String text, int want) {
        HushWatch watch = new HushWatch();
        tape(watch, text);
        due("fault(" + sort + ") of '" + text + "'", watch.fault(sort), want);
        due("fault(" + sort + ") of '" + text + "' once more", watch.fault(sort), want);
        due("the tape behind fault", watch.held(2), text.length());
    }

    static boolean siteThrows(HushWatch watch, int site, int what) {
        try {
            watch.site(site, what);
            return false;
        } catch (NoSuchElementException e) {
            return true;
        }
    }

    static String spelled(HushWatch watch, int site) {
        StringBuilder words = new StringBuilder();
        int length = watch.spell(site, -1);
        for (int i = 0; i < length; i++) {
            words.append((char) watch.spell(site, i));
        }
        return words.toString();
    }

    static void finish(String test) {
        System.out.println(test + ": " + right + " answers as due, " + wrong + " not");
        if (wrong != 0 || right == 0) {
            System.exit(1);
        }
    }
}
