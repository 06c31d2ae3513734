/** Each sentence that bounds what is seen and asked, chances, the latch and the years: at the bound, one below it, one above it. */
public final class GuessBoundsTest {
    private static final int NONE = LastCook.NONE;
    private static final int NOT_THERE = -9;
    private static final int[] FAR = {Integer.MIN_VALUE, -1000, -2, -1, 3, 4, 5, 6, 7, 31, 32, 1000, Integer.MAX_VALUE};
    /** ann is in by minute 4, ben by 3, cat by 6. */
    private static final String THREE = Check.guest("ann", "plain", 40, 10, 3) + Check.guest("ben", "plain", 30, 10, 7)
        + Check.guest("cat", "plain", 30, 5, 12);

    private final Check c;

    private GuessBoundsTest(String[] args) {
        c = new Check(args);
    }

    public static void main(String[] args) {
        GuessBoundsTest t = new GuessBoundsTest(args);
        t.seenYards();
        t.seenIn();
        t.seenNow();
        t.seeRefused();
        t.eight();
        t.who();
        t.askMinutes();
        t.askYards();
        t.askHalves();
        t.askNone();
        t.chanceMinutes();
        t.chanceOdds();
        t.chanceEaten();
        t.chanceOthers();
        t.rests();
        t.restsOthers();
        t.restsGains();
        t.restsLeastFirst();
        t.draws();
        t.yearsIfItCanBe();
        t.years();
        t.yearsAhead();
        t.yearsOthers();
        t.c.end();
    }

    private static LastCook three() {
        return Check.at(THREE);
    }

    private static LastCook after(String supper, int minutes) {
        LastCook x = Check.at(supper);
        Check.minutes(x, minutes);
        return x;
    }

    private int whoIf(String supper, int minutes, int yards, boolean near) {
        LastCook x = Check.at(supper);
        c.due("see(" + minutes + ", " + yards + ", " + near + ")", x.see(minutes, yards, near), true);
        return x.who();
    }

    private void seenYards() {
        c.sentence("is no more than so many yards off (0 to 300) behind so many (0 to 60) MINUTES");
        int[][] due = {{0, 0}, {29, 0}, {30, 6}, {31, 6}, {39, 6}, {40, 7}, {41, 7}, {299, 7}, {300, 7}};
        for (int[] d : due) {
            c.due("now within " + d[0], whoIf(THREE, 0, d[0], true), d[1]);
            c.due("now farther than " + d[0], whoIf(THREE, 0, d[0], false), 7 - d[1]);
        }
        String two = Check.guest("a", "plain", 300, 1, 1) + Check.guest("b", "plain", 299, 1, 1);
        int[][] later = {{0, 299, 2}, {0, 300, 3}, {1, 298, 2}, {1, 299, 3}, {59, 240, 2}, {60, 239, 2}, {60, 240, 3}, {60, 238, 0}};
        for (int[] d : later) {
            c.due("behind " + d[0] + " within " + d[1], whoIf(two, d[0], d[1], true), d[2]);
            c.due("behind " + d[0] + " farther than " + d[1], whoIf(two, d[0], d[1], false), 3 - d[2]);
        }
    }

    private void seenIn() {
        c.sentence("(0 yards if IN)");
        int[][] due = {{2, 0}, {3, 2}, {4, 3}, {5, 3}, {6, 0}};
        for (int[] d : due) {
            c.due("in behind " + d[0], whoIf(THREE, d[0], 0, true), d[1]);
            c.due("not in behind " + d[0], whoIf(THREE, d[0], 0, false), 7 - d[1]);
        }
    }

    private void seenNow() {
        c.sentence("SEEN: that an unknown GUEST, on the road now");
        LastCook x = three();
        c.due("all", x.who(), 7);
        Check.minutes(x, 3);
        c.due("ben is in", x.who(), 5);
        x.see(0, 0, true);
        c.due("nobody on the road is within 0", x.who(), 0);
        x = after(THREE, 3);
        x.see(3, 300, true);
        c.due("within 300 in the next night: of those on the road", x.who(), 5);
        Check.minutes(x, 3);
        c.due("all are on the road again", x.who(), 7);
    }

    private void seeRefused() {
        c.sentence("SEEN: true; false: others, 8 there are.");
        LastCook x = three();
        String ahead = Check.picture(x);
        for (int minutes : new int[] {Integer.MIN_VALUE, -1, 61, 62, Integer.MAX_VALUE}) {
            c.due("behind " + minutes, x.see(minutes, 0, true), false);
            c.due("not behind " + minutes, x.see(minutes, 0, false), false);
        }
        for (int yards : new int[] {Integer.MIN_VALUE, -1, 301, 302, Integer.MAX_VALUE}) {
            c.due("within " + yards, x.see(0, yards, true), false);
            c.due("not within " + yards, x.see(0, yards, false), false);
        }
        c.alike("all as it is", Check.picture(x), ahead);
        int seen = 0;
        for (int minutes : new int[] {0, 60}) {
            for (int yards : new int[] {0, 300}) {
                c.due("see(" + minutes + ", " + yards + ")", x.see(minutes, yards, true), true);
                seen++;
                c.due("seen", x.count(10), seen);
            }
        }
        c.due("nothing is done", x.count(11), 0);
    }

    private void eight() {
        c.sentence("or is farther; 8 at most");
        LastCook x = three();
        for (int i = 1; i <= 10; i++) {
            c.due("the " + i + "th", x.see(0, 300, i == 9 ? false : true), i <= 8);
            c.due("seen", x.count(10), Math.min(i, 8));
        }
        c.due("the ninth says nothing", x.who(), 7);
        c.due("the same twice counts twice; another one", x.see(1, 1, true), false);
        x.mark(0, false);
        Check.supper(x, THREE);
        c.due("nothing seen", x.count(10), 0);
        for (int i = 0; i < 7; i++) {
            x.see(0, 300, true);
        }
        c.due("the eighth", x.see(0, 30, true), true);
        c.due("counts", x.who(), 6);
    }

    private void who() {
        c.sentence("WHO: GUESTS by which all SEEN is so (bits).");
        LastCook x = three();
        c.due("nothing seen", x.who(), 7);
        x.see(0, 30, true);
        c.due("ben, cat", x.who(), 6);
        x.see(1, 20, true);
        c.due("ben", x.who(), 2);
        x.see(2, 10, false);
        c.due("nobody", x.who(), 0);
        x = three();
        x.see(6, 30, false);
        c.due("ann, by the next night", x.who(), 1);
        c.due("nobody there", new LastCook().who(), 0);
    }

    private void askMinutes() {
        c.sentence("ASK: the least number of MINUTES (0 to 60)");
        String two = Check.guest("a", "plain", 120, 1, 1) + Check.guest("b", "plain", 120, 1, 1);
        for (int stuck = 58; stuck <= 60; stuck++) {
            LastCook x = Check.at(two);
            x.wheel(0, stuck - 1);
            x.wheel(1, stuck);
            c.due("they part behind " + stuck, x.ask(), 1000 * stuck + 119);
        }
        LastCook x = Check.at(Check.guest("a", "plain", 120, 1, 1) + Check.guest("b", "plain", 120, 2, 1) + "snow 1;");
        c.due("never", x.ask(), NONE);
        x = Check.at(Check.guest("a", "plain", 300, 1, 1) + Check.guest("b", "plain", 300, 2, 1) + "snow 1 1 1 1 1 1 1 1 1 1 1 0;");
        c.due("behind 12", x.ask(), 12000 + 300 - 13);
        x = Check.at(Check.guest("a", "plain", 120, 1, 1) + Check.guest("b", "plain", 120, 1, 1));
        x.wheel(0, 60);
        x.wheel(1, 60);
        x.minute();
        x.wheel(0, 1);
        c.due("59 and 60: behind 60", x.ask(), 60119);
        c.due("stuck for 60 and 59", x.guest(0, 5) * 100 + x.guest(1, 5), 6059);
        x = Check.at(Check.guest("a", "plain", 5, 1, 1) + Check.guest("b", "plain", 70, 1, 1));
        c.due("at once if it can be", x.ask(), 5);
        x = Check.at(Check.guest("a", "great", 61, 1, 1) + Check.guest("b", "plain", 61, 1, 1) + "bend 1;");
        c.due("a waits at 1, b is in behind 61: not asked", x.ask(), NONE);
        x.minute();
        c.due("behind 60, b being in, it is a who waits", x.ask(), 60000);
    }

    private void askYards() {
        c.sentence("and the yards (0 to 300), the least by it");
        c.due("299 and 300", Check.at(Check.guest("a", "plain", 300, 1, 1) + Check.guest("b", "plain", 299, 1, 1)).ask(), 299);
        c.due("1 and 300", Check.at(Check.guest("a", "plain", 300, 1, 1) + Check.guest("b", "plain", 1, 1, 1)).ask(), 1);
        c.due("in and not: 0", Check.at(Check.guest("a", "plain", 2, 2, 1) + Check.guest("b", "plain", 2, 1, 1)).ask(), 1000);
        String three = Check.guest("a", "plain", 10, 1, 1) + Check.guest("b", "plain", 20, 1, 1) + Check.guest("d", "plain", 30, 1, 1);
        c.due("one from two, or two from one: the least yards", Check.at(three).ask(), 10);
    }

    private void askHalves() {
        c.sentence("by which the greater number of WHO that are no farther, or are, is the least");
        StringBuilder told = new StringBuilder();
        int[] due = {NONE, NONE, 10, 10, 20, 20, 30};
        for (int n = 1; n <= 6; n++) {
            told.append(Check.guest("g" + (char) ('a' + n), "plain", 10 * n, 1, 1));
            c.due(n + " in a row", Check.at(told.toString()).ask(), due[n]);
        }
        LastCook x = Check.at(Check.guest("a", "plain", 30, 1, 1) + Check.guest("b", "plain", 30, 1, 1) + Check.guest("d", "plain", 30, 2, 1)
            + Check.guest("e", "plain", 20, 1, 1));
        c.due("one from three now, halves behind 1?", x.ask(), 1028);
        x.see(0, 20, false);
        c.due("of WHO alone: d from two, behind 1", x.ask(), 1028);
        x.see(1, 28, true);
        c.due("d alone", x.ask(), NONE);
    }

    private void askNone() {
        c.sentence("ASK, as 1000 * the MINUTES + the yards; NONE: none parts them.");
        c.due("nobody", new LastCook().ask(), NONE);
        c.due("one", Check.at(Check.guest("a", "plain", 5, 1, 1)).ask(), NONE);
        c.due("two alike", Check.at(Check.guest("a", "plain", 5, 1, 1) + Check.guest("b", "plain", 5, 1, 1)).ask(), NONE);
        LastCook x = three();
        x.see(0, 0, true);
        c.due("none is left", x.ask(), NONE);
        x = after(THREE, 4);
        c.due("one is on the road", x.ask(), NONE);
        c.due("two are", after(THREE, 3).ask(), 10);
        c.sentence("if that is less than all");
        x = Check.at(Check.guest("a", "plain", 120, 1, 1) + Check.guest("b", "plain", 120, 1, 1));
        c.due("two alike", x.ask(), NONE);
        x.run(1, 1);
        c.due("told apart by running", x.ask(), 1118);
    }

    private void chanceMinutes() {
        c.sentence("CHANCE: each of so many (1 to 6) MINUTES has a snow of 9 by odds of ten, else of 0, in place of what is told");
        String told = Check.guest("a", "plain", 10, 10, 1) + Check.guest("b", "plain", 300, 1, 1) + "snow 9 8 7;";
        // In unless each minute has the deep snow, six of which make 6 yards.
        int[] due = {NONE, 500000, 750000, 875000, 937500, 968750, 984375, NONE};
        for (int minutes = 0; minutes <= 7; minutes++) {
            c.due("minutes " + minutes, Check.at(told).chance(0, minutes, 5), due[minutes]);
        }
        LastCook x = Check.at(told);
        for (int minutes : new int[] {Integer.MIN_VALUE, -1, 8, Integer.MAX_VALUE}) {
            c.due("minutes " + minutes, x.chance(0, minutes, 5), NONE);
        }
        x = Check.at(Check.guest("a", "plain", 6, 1, 1) + Check.guest("b", "plain", 300, 1, 1));
        c.due("1 at least in any snow: not by 5", x.chance(0, 5, 5), 0);
        c.due("by 6", x.chance(0, 6, 5), 1000000);
        x = Check.at(Check.guest("a", "plain", 21, 30, 1) + Check.guest("b", "plain", 300, 1, 1));
        c.due("21 by a snow of 9", x.chance(0, 1, 10), 1000000);
        x = Check.at(Check.guest("a", "plain", 22, 30, 1) + Check.guest("b", "plain", 300, 1, 1));
        c.due("not 22", x.chance(0, 1, 10), 0);
        c.due("22 by none", x.chance(0, 1, 9), 100000);
    }

    private void chanceOdds() {
        c.sentence("CHANCE, by odds (0 to 10); NONE: others, IN.");
        LastCook x = Check.at(Check.guest("a", "plain", 10, 10, 1) + Check.guest("b", "plain", 300, 1, 1));
        for (int odds = 0; odds <= 10; odds++) {
            c.due("odds " + odds, x.chance(0, 1, odds), 100000 * (10 - odds));
            int sixth = 1;
            for (int i = 0; i < 6; i++) {
                sixth *= odds;
            }
            c.due("of six, odds " + odds, x.chance(0, 6, odds), 1000000 - sixth);
        }
        for (int odds : new int[] {Integer.MIN_VALUE, -1, 11, 12, Integer.MAX_VALUE}) {
            c.due("odds " + odds, x.chance(0, 1, odds), NONE);
        }
    }

    private void chanceEaten() {
        c.sentence("that a GUEST on the road now is IN behind these, or it was EATEN in them");
        LastCook x = Check.at(Check.guest("a", "plain", 10, 10, 1));
        c.due("one alone, eaten by the first", x.chance(0, 1, 5), 500000);
        c.due("then on the road again", x.chance(0, 2, 5), 750000);
        c.due("six", x.chance(0, 6, 0), 1000000);
        x = Check.at(Check.guest("a", "shy", 5, 5, 1) + Check.guest("b", "plain", 10, 10, 1));
        c.due("a waits for b, by one minute", x.chance(0, 1, 0), 0);
        c.due("and goes in", x.chance(0, 2, 0), 1000000);
        c.due("by two of which the first has no snow", x.chance(0, 2, 5), 250000);
        c.due("nothing is done", x.count(4) + x.count(11), 0);
        c.sentence("in millionths, cut");
        x = Check.at(Check.guest("a", "plain", 60, 10, 1) + Check.guest("b", "plain", 300, 1, 1));
        c.due("one of a million", x.chance(0, 6, 9), 1);
        c.due("a million of a million", x.chance(0, 6, 0), 1000000);
    }

    private void chanceOthers() {
        c.sentence("CHANCE, by odds (0 to 10); NONE: others, IN.");
        LastCook x = after(THREE, 2);
        c.due("ben, on the road", x.chance(1, 1, 0), 1000000);
        x.minute();
        c.due("ben, in", x.chance(1, 1, 0), NONE);
        for (int guest : FAR) {
            c.due("of " + guest, x.chance(guest, 1, 0), NONE);
        }
    }

    private static int gain(boolean goes, boolean other, int lose, int alone, int waits) {
        return goes ? (other ? -lose : alone) : other ? waits : 0;
    }

    private static boolean rest(int lose, int alone, int waits, int choices) {
        boolean first = (choices & 2) != 0;
        boolean second = (choices & 1) != 0;
        return gain(!first, second, lose, alone, waits) <= gain(first, second, lose, alone, waits)
            && gain(!second, first, lose, alone, waits) <= gain(second, first, lose, alone, waits);
    }

    private void rests() {
        c.sentence("RESTS: by which neither would get more by the other.");
        LastCook x = new LastCook();
        for (int latch = 0; latch < 1000; latch++) {
            int lose = latch / 100;
            int goes = latch / 10 % 10;
            int waits = latch % 10;
            int found = 0;
            for (int choices = 0; choices < 4; choices++) {
                if (rest(lose, goes, waits, choices)) {
                    c.due("rest " + found + " of " + latch, Check.rests(x, lose, goes, waits, found), choices);
                    found++;
                }
            }
            c.due("rests of " + latch, Check.rests(x, lose, goes, waits, NONE), found);
            c.due("one more of " + latch, Check.rests(x, lose, goes, waits, found), NOT_THERE);
        }
    }

    private void restsOthers() {
        c.sentence("NoSuchElementException: others, none such.");
        LastCook x = three();
        String ahead = Check.picture(x);
        for (int far : new int[] {Integer.MIN_VALUE, -2, -1, 10, 11, Integer.MAX_VALUE}) {
            c.due("lose " + far, Check.rests(x, far, 5, 5, NONE), NOT_THERE);
            c.due("goes " + far, Check.rests(x, 5, far, 5, NONE), NOT_THERE);
            c.due("waits " + far, Check.rests(x, 5, 5, far, NONE), NOT_THERE);
            c.due("lose " + far + ", the first", Check.rests(x, far, 5, 5, 0), NOT_THERE);
        }
        for (int what : new int[] {Integer.MIN_VALUE, -3, -2, 2, 3, 4, Integer.MAX_VALUE}) {
            c.due("what " + what, Check.rests(x, 5, 5, 5, what), NOT_THERE);
        }
        c.due("what NONE", Check.rests(x, 5, 5, 5, NONE), 2);
        c.due("what 1", Check.rests(x, 5, 5, 5, 1), 2);
        c.due("0 0 0", Check.rests(x, 0, 0, 0, 3), 3);
        c.due("9 9 9", Check.rests(x, 9, 9, 9, 0), 1);
        c.alike("all as it is", Check.picture(x), ahead);
    }

    private void restsGains() {
        c.sentence("both go in: each loses so much (0 to 9); one does: he gets so much (0 to 9), the other one so much (0 to 9); "
            + "both wait: nothing");
        LastCook x = new LastCook();
        for (int n = 0; n <= 9; n++) {
            c.due("both go in only if nothing is lost by it: " + n, Check.rests(x, n, 5, 0, NONE), n == 0 ? 3 : 2);
            c.due("both wait only if nothing is got by going: " + n, Check.rests(x, 5, n, 5, NONE), n == 0 ? 3 : 2);
            c.due("both go in only if nothing is got by waiting: " + n, Check.rests(x, 0, 5, n, NONE), n == 0 ? 3 : 2);
        }
        c.sentence("what NONE: how many");
        c.due("what -1", Check.rests(x, 0, 0, 0, -1), 4);
        c.due("what -2", Check.rests(x, 0, 0, 0, -2), NOT_THERE);
        c.due("what 0", Check.rests(x, 0, 0, 0, 0), 0);
    }

    private void restsLeastFirst() {
        c.sentence("i: the i-th as 2 * the first one's choice + the other one's (1 goes in; the least first)");
        LastCook x = new LastCook();
        for (int i = 0; i < 4; i++) {
            c.due("of nothing the " + i + "th", Check.rests(x, 0, 0, 0, i), i);
        }
        c.due("of nothing no fifth", Check.rests(x, 0, 0, 0, 4), NOT_THERE);
        c.due("both wait for nothing", Check.rests(x, 1, 0, 0, 0), 0);
        c.due("the other one goes", Check.rests(x, 1, 0, 0, 1), 1);
        c.due("the first one goes", Check.rests(x, 1, 0, 0, 2), 2);
        c.due("both do not", Check.rests(x, 1, 0, 0, 3), NOT_THERE);
    }

    private static int draw(long[] g, int below) {
        g[0] = java.math.BigInteger.valueOf(g[0]).multiply(java.math.BigInteger.valueOf(1103515245L))
            .add(java.math.BigInteger.valueOf(12345L)).mod(java.math.BigInteger.valueOf(2147483648L)).longValue();
        return (int) (g[0] / 65536 % below);
    }

    private void draws() {
        c.sentence("A DRAW below m: g becomes (g * 1103515245 + 12345) modulo 2147483648 (g is the SEED at first); it is g / 65536, cut, "
            + "modulo m.");
        for (int seed : new int[] {0, 1, 2, 77, 9998, 9999}) {
            for (int minutes : new int[] {1, 2, 50, 98, 99}) {
                byHand(THREE, 3, seed, minutes);
                byHand(Check.guest("a", "plain", 9, 1, 2), 1, seed, minutes);
            }
        }
    }

    /** The same deeds by the calls of the face; what can't be is drawn all the same. */
    private void byHand(String supper, int guests, int seed, int minutes) {
        LastCook x = Check.at(supper);
        int[] got = {x.years(seed, minutes, 0), x.years(seed, minutes, 1), x.years(seed, minutes, 2)};
        long[] g = {seed};
        for (int i = 0; i < minutes; i++) {
            int deed = draw(g, 8);
            if (deed <= 2) {
                int who = draw(g, guests);
                int other = draw(g, deed == 0 ? 20 : deed == 1 ? 9 : guests);
                if (deed == 0) {
                    x.wheel(who, other + 1);
                } else if (deed == 1) {
                    x.run(who, other + 1);
                } else {
                    x.hire(who, other);
                }
            }
            x.minute();
        }
        c.due("how often by " + seed + ", " + minutes, got[0], x.count(8));
        c.due("tasted by " + seed + ", " + minutes, got[1], x.count(7));
        c.due("on the road by " + seed + ", " + minutes, got[2], x.count(6));
    }

    private void yearsIfItCanBe() {
        c.sentence("0: one below GUESTS: a WHEEL by a DRAW below 20 and 1, if it can be, 1: one below GUESTS: a RUN by a DRAW below 9 "
            + "and 1, if it can be, 2: one below GUESTS, one more: that HIRE, if it can be; then the MINUTE");
        StringBuilder six = new StringBuilder("snow 0 2;tastes skill-late;hour 12;");
        String[] kinds = {"plain", "doctor", "shy", "great", "plain", "plain"};
        for (int i = 0; i < 6; i++) {
            six.append(Check.guest("g" + (char) ('a' + i), kinds[i], 5 + 9 * i, 3, 3 * i));
        }
        for (int seed = 0; seed < 60; seed++) {
            byHand(six.toString(), 6, 37 * seed, 99);
            byHand(Check.guest("a", "plain", 1, 1, 2) + Check.guest("b", "plain", 200, 4, 3), 2, 37 * seed, 99);
        }
    }

    private void years() {
        c.sentence("YEARS by a SEED (0 to 9999), what 0: how often, 1: tasted, 2: bits; -100000: others.");
        LastCook x = three();
        for (int seed : new int[] {Integer.MIN_VALUE, -1, 0, 1, 9998, 9999, 10000, Integer.MAX_VALUE}) {
            c.due("seed " + seed, x.years(seed, 1, 2), seed >= 0 && seed <= 9999 ? 7 : -100000);
        }
        for (int what : new int[] {Integer.MIN_VALUE, -1, 3, 4, Integer.MAX_VALUE}) {
            c.due("what " + what, x.years(0, 1, what), -100000);
        }
        c.sentence("YEARS by a SEED of so many MINUTES (1 to 99), from now on (all is as ahead then)");
        for (int minutes : new int[] {Integer.MIN_VALUE, -1, 0, 1, 2, 98, 99, 100, 101, Integer.MAX_VALUE}) {
            c.due("minutes " + minutes, x.years(0, minutes, 0) >= 0, minutes >= 1 && minutes <= 99);
            c.due("minutes " + minutes, x.years(0, minutes, 0) == -100000, minutes < 1 || minutes > 99);
        }
        x.minute();
        String ahead = Check.picture(x);
        for (int seed = 0; seed < 50; seed++) {
            x.years(seed, 99, seed % 3);
        }
        c.alike("all is as ahead", Check.picture(x), ahead);
    }

    private void yearsAhead() {
        c.sentence("how often it is EATEN by these; what is tasted by these; who is on the road at last, as bits");
        LastCook x = Check.at(Check.guest("a", "plain", 1, 1, 7));
        Check.minutes(x, 5);
        LastCook fresh = Check.at(Check.guest("a", "plain", 1, 1, 7));
        for (int seed = 0; seed < 20; seed++) {
            c.due("by these alone, seed " + seed, x.years(seed, 30, 0), fresh.years(seed, 30, 0));
            c.due("tasted by these, seed " + seed, x.years(seed, 30, 1), 7 * x.years(seed, 30, 0));
        }
        c.due("he is on the road", x.years(3, 99, 2), 1);
    }

    private void yearsOthers() {
        c.sentence("each, if there are GUESTS: a DRAW below 8");
        LastCook nobody = new LastCook();
        for (int seed = 0; seed <= 9999; seed += 1111) {
            for (int what = 0; what <= 2; what++) {
                c.due("nobody, seed " + seed + ", what " + what, nobody.years(seed, 99, what), 0);
            }
        }
        c.due("nobody, seed 10000", nobody.years(10000, 99, 0), -100000);
        c.due("nobody, minutes 100", nobody.years(0, 100, 0), -100000);
        c.due("nobody, what 3", nobody.years(0, 99, 3), -100000);
    }
}
