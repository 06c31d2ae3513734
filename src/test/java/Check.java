import java.util.NoSuchElementException;

/** What the tests share: telling a text to a supper, and counting answers that are not as due. */
final class Check {
    private int wrong = 0;
    private int asked = 0;

    void due(String call, long got, long want) {
        asked++;
        if (got != want) {
            wrong++;
            if (wrong <= 50) {
                System.out.println(call + " answered " + got + ", due is " + want);
            }
        }
    }

    void due(String call, boolean got, boolean want) {
        due(call, got ? 1L : 0L, want ? 1L : 0L);
    }

    void end() {
        System.out.println(asked + " answers asked, " + wrong + " not as due");
        if (wrong != 0 || asked == 0) {
            System.exit(1);
        }
    }

    static int tell(LastCook x, String text) {
        int signs = 0;
        for (int i = 0; i < text.length(); i += 24) {
            signs = x.feed(eight(text, i), eight(text, i + 8), eight(text, i + 16));
        }
        return signs;
    }

    private static long eight(String text, int from) {
        long bytes = 0;
        for (int i = from; i < from + 8; i++) {
            bytes = bytes << 8 | (i < text.length() ? text.charAt(i) : 0);
        }
        return bytes;
    }

    static int supper(LastCook x, String text) {
        tell(x, text);
        return x.supper();
    }

    static int night(LastCook x, String text) {
        tell(x, text);
        return x.night();
    }

    static LastCook at(String supper) {
        LastCook x = new LastCook();
        int fault = supper(x, supper);
        if (fault != 0) {
            throw new IllegalArgumentException("fault " + fault + " in: " + supper);
        }
        return x;
    }

    static void minutes(LastCook x, int minutes) {
        for (int i = 0; i < minutes; i++) {
            x.minute();
        }
    }

    /** What rests answers, or -9 where it throws NoSuchElementException. */
    static int rests(LastCook x, int lose, int goes, int waits, int what) {
        try {
            return x.rests(lose, goes, waits, what);
        } catch (NoSuchElementException e) {
            return -9;
        }
    }
}
