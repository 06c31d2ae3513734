import java.io.IOException;
import java.nio.file.Files;
import java.nio.file.Path;
import java.util.NoSuchElementException;

/** What the tests share: telling a text to a supper, and counting answers that are not as due. */
final class Check {
    private final String document;
    private String sentence = "";
    private int sentences = 0;
    private int askedOfIt = 1;
    private int wrong = 0;
    private int asked = 0;

    Check() {
        document = "";
    }

    /** With the arguments of a test: behind the source, the path of the document, whose sentences are named. */
    Check(String[] args) {
        document = args.length > 1 ? read(Path.of(args[1])) : "";
    }

    private static String read(Path path) {
        try {
            return Files.exists(path) ? oneLine(Files.readString(path)) : "";
        } catch (IOException e) {
            return "";
        }
    }

    private static String oneLine(String text) {
        return text.replaceAll("\\s+", " ");
    }

    /** What is asked from here on tests this sentence, which must stand in the document as it is written here. */
    void sentence(String words) {
        endSentence();
        sentence = "'" + words + "': ";
        sentences++;
        askedOfIt = 0;
        if (!document.isEmpty() && !document.contains(oneLine(words))) {
            wrong++;
            System.out.println(sentence + "does not stand in the document");
        }
    }

    private void endSentence() {
        if (askedOfIt == 0) {
            wrong++;
            System.out.println(sentence + "nothing was asked");
        }
    }

    void due(String call, long got, long want) {
        asked++;
        askedOfIt++;
        if (got != want) {
            wrong++;
            if (wrong <= 50) {
                System.out.println(sentence + call + " answered " + got + ", due is " + want);
            }
        }
    }

    /** Two pictures of all that can be asked, which must be alike. */
    void alike(String call, String got, String want) {
        due(call, got.equals(want), true);
    }

    void due(String call, boolean got, boolean want) {
        due(call, got ? 1L : 0L, want ? 1L : 0L);
    }

    void end() {
        endSentence();
        if (sentences > 0) {
            System.out.println(sentences + " sentences" + (document.isEmpty() ? ", the document was not found" : ""));
        }
        System.out.println(asked + " answers asked, " + wrong + " not as due");
        if (wrong != 0 || asked == 0) {
            System.exit(1);
        }
    }

    static int tell(LastCook x, String text) {
        int signs = 0;
        for (int i = 0; i < text.length(); i += 24) {
            signs = x.feed(eight(text, i), eight(text, i + 8), eight(text, i + 16));
        }
        return signs;
    }

    private static long eight(String text, int from) {
        long bytes = 0;
        for (int i = from; i < from + 8; i++) {
            bytes = bytes << 8 | (i < text.length() ? text.charAt(i) : 0);
        }
        return bytes;
    }

    /** A line of a supper. */
    static String guest(String name, String kind, int off, int pace, int cooks) {
        return "guest " + name + " " + kind + " off " + off + " pace " + pace + " cooks " + cooks + ";";
    }

    static String times(int times, String text) {
        return text.repeat(times);
    }

    static int supper(LastCook x, String text) {
        tell(x, text);
        return x.supper();
    }

    static int night(LastCook x, String text) {
        tell(x, text);
        return x.night();
    }

    static LastCook at(String supper) {
        LastCook x = new LastCook();
        int fault = supper(x, supper);
        if (fault != 0) {
            throw new IllegalArgumentException("fault " + fault + " in: " + supper);
        }
        return x;
    }

    static void minutes(LastCook x, int minutes) {
        for (int i = 0; i < minutes; i++) {
            x.minute();
        }
    }

    /** What rests answers, or -9 where it throws NoSuchElementException. */
    static int rests(LastCook x, int lose, int goes, int waits, int what) {
        try {
            return x.rests(lose, goes, waits, what);
        } catch (NoSuchElementException e) {
            return -9;
        }
    }

    /** The answers of all questions that change nothing, but for the signs on the tape. */
    static String picture(LastCook x) {
        StringBuilder all = new StringBuilder();
        for (int what = 0; what <= 11; what++) {
            all.append(" c").append(x.count(what));
        }
        for (int g = 0; g < 6; g++) {
            for (int what = 0; what <= 7; what++) {
                all.append(" g").append(x.guest(g, what));
            }
            for (int other = 0; other < 6; other++) {
                all.append(" m").append(x.meets(g, other));
            }
            all.append(" l").append(x.later(g, 1)).append(' ').append(x.later(g, 7)).append(' ').append(x.later(g, 60));
            all.append(" o").append(x.order(g)).append(" n").append(x.nights(g + 1)).append(" d").append(x.delay(g));
            all.append(" s").append(x.spare(g)).append(" e").append(x.excuse(g)).append(" w").append(x.with(g));
            all.append(" h").append(x.chance(g, 3, 4));
        }
        all.append(" j").append(x.judged(0)).append(' ').append(x.judged(1)).append(' ').append(x.judged(2));
        all.append(" w").append(x.when()).append(" k").append(x.cook()).append(" b").append(x.best());
        all.append(" f").append(x.fair()).append(" h").append(x.held()).append(" n").append(x.near(10)).append(" y").append(x.boy(5));
        all.append(" w").append(x.who()).append(" a").append(x.ask());
        all.append(" y").append(x.years(7, 50, 0)).append(' ').append(x.years(7, 50, 1)).append(' ').append(x.years(7, 50, 2));
        return all.toString();
    }
}
