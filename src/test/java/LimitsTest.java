import java.util.NoSuchElementException;
import java.util.Random;

/** Arguments from far outside, in every state: no call may throw but rests, and that only NoSuchElementException. */
public final class LimitsTest {
    private static final int[] ODD = {Integer.MIN_VALUE, Integer.MIN_VALUE + 1, -100000, -1000, -7, -2, -1, 0, 1, 2, 3, 4, 5, 6, 7, 8, 9,
        10, 12, 13, 31, 32, 33, 40, 60, 61, 64, 99, 100, 300, 301, 400, 9999, 10000, 1 << 30, Integer.MAX_VALUE - 1, Integer.MAX_VALUE};
    private static final String SIX = "guest a plain off 300 pace 1 cooks 1;guest b doctor off 9 pace 30 cooks 2;guest c shy off 20 pace 5 "
        + "cooks 20;guest d great off 7 pace 3 cooks 9;guest e plain off 44 pace 2 cooks 0;guest f shy off 1 pace 1 cooks 3;snow 9 0 1;";

    private static Random random = new Random(1);

    private static int odd() {
        return ODD[random.nextInt(ODD.length)];
    }

    public static void main(String[] args) {
        for (int run = 0; run < 1200; run++) {
            random = new Random(run);
            LastCook x = new LastCook();
            if (run % 4 > 0) {
                Check.tell(x, run % 4 == 1 ? SIX : run % 4 == 2 ? SIX.substring(0, 38) : SIX + "tastes skill*9999*9999-night;");
                x.supper();
            }
            for (int i = 0; i < 480; i++) {
                call(x, random.nextInt(36));
            }
        }
        System.out.println("no call threw what it may not");
    }

    private static void call(LastCook x, int which) {
        switch (which) {
            case 0: x.feed(random.nextLong(), random.nextLong(), random.nextLong()); break;
            case 1: if (random.nextInt(20) == 0) { x.supper(); } break;
            case 2: x.night(); break;
            case 3: x.guest(odd(), odd()); break;
            case 4: x.wheel(odd(), odd()); break;
            case 5: x.run(odd(), odd()); break;
            case 6: x.hire(odd(), odd()); break;
            case 7: x.undo(); break;
            case 8: x.judged(odd()); break;
            case 9: x.when(); break;
            case 10: x.cook(); break;
            case 11: x.order(odd()); break;
            case 12: x.later(odd(), odd()); break;
            case 13: x.nights(odd()); break;
            case 14: x.delay(odd()); break;
            case 15: x.spare(odd()); break;
            case 16: x.best(); break;
            case 17: x.excuse(odd()); break;
            case 18: x.meets(odd(), odd()); break;
            case 19: x.near(odd()); break;
            case 20: x.with(odd()); break;
            case 21: x.boy(odd()); break;
            case 22: x.held(); break;
            case 23: x.fair(); break;
            case 24: x.see(odd(), odd(), random.nextBoolean()); break;
            case 25: x.who(); break;
            case 26: x.ask(); break;
            case 27: x.chance(odd(), odd(), odd()); break;
            case 28: rests(x); break;
            case 29: x.years(odd(), odd(), odd()); break;
            case 30: x.mark(odd(), random.nextBoolean()); break;
            case 31: x.count(odd()); break;
            default: x.minute(); break;
        }
    }

    private static void rests(LastCook x) {
        try {
            x.rests(odd(), odd(), odd(), odd());
        } catch (NoSuchElementException e) {
            // The document allows this one.
        }
    }
}
