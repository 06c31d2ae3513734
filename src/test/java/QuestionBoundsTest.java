/** Each sentence that bounds a question about what will be: at the bound, one below it, one above it. */
public final class QuestionBoundsTest {
    private static final int NONE = LastCook.NONE;
    private static final int[] FAR = {Integer.MIN_VALUE, -1000, -2, -1, 3, 4, 5, 6, 7, 31, 32, 1000, Integer.MAX_VALUE};
    /** ann is in by minute 4, ben by 3, cat by 6. */
    private static final String THREE = Check.guest("ann", "plain", 40, 10, 3) + Check.guest("ben", "plain", 30, 10, 7)
        + Check.guest("cat", "plain", 30, 5, 12);
    /** Two shy ones: nobody ever goes in. */
    private static final String COUPLE = Check.guest("a", "shy", 20, 5, 1) + Check.guest("b", "shy", 30, 5, 2);
    /** a is in by minute 300, b, who waits for him, 50 minutes behind him. */
    private static final String SLOW = Check.guest("a", "plain", 300, 1, 1) + Check.guest("b", "great", 300, 1, 20) + "bend 50;";

    private final Check c;

    private QuestionBoundsTest(String[] args) {
        c = new Check(args);
    }

    public static void main(String[] args) {
        QuestionBoundsTest t = new QuestionBoundsTest(args);
        t.nothingIsDone();
        t.when();
        t.cook();
        t.order();
        t.orderThoseThatAre();
        t.later();
        t.nights();
        t.nights2400();
        t.delay();
        t.delayOthers();
        t.spare();
        t.spareOthers();
        t.best();
        t.bestOf400();
        t.bestFirst();
        t.excuse();
        t.excuseNone();
        t.meets();
        t.meetsOthers();
        t.near();
        t.with();
        t.with400();
        t.boy();
        t.held();
        t.fair();
        t.c.end();
    }

    private static LastCook three() {
        return Check.at(THREE);
    }

    private static LastCook after(String supper, int minutes) {
        LastCook x = Check.at(supper);
        Check.minutes(x, minutes);
        return x;
    }

    private void nothingIsDone() {
        c.sentence("(MINUTES going by, nothing else being done.)");
        LastCook x = after(THREE + "snow 0 3;", 2);
        x.wheel(0, 2);
        x.see(3, 9, true);
        String first = Check.picture(x);
        c.alike("asking all changes nothing", Check.picture(x), first);
        c.due("what can be undone", x.count(11), 3);
        int[] off = new int[3];
        for (int minutes = 0; minutes <= 30; minutes++) {
            LastCook y = after(THREE + "snow 0 3;", 2);
            y.wheel(0, 2);
            Check.minutes(y, minutes);
            for (int g = 0; g < 3; g++) {
                off[g] = y.guest(g, 1);
                c.due("later(" + g + ", " + minutes + ")", x.later(g, minutes), off[g]);
            }
        }
    }

    private void when() {
        c.sentence("WHEN: in how many MINUTES (1 to 400) it is EATEN the next time.");
        c.due("1", Check.at(Check.guest("a", "plain", 1, 1, 1)).when(), 1);
        c.due("2", Check.at(Check.guest("a", "plain", 2, 1, 1)).when(), 2);
        c.due("300", Check.at(Check.guest("a", "plain", 300, 1, 1)).when(), 300);
        for (int stuck = 48; stuck <= 52; stuck++) {
            LastCook x = Check.at(SLOW);
            x.wheel(0, stuck);
            c.due("stuck for " + stuck, x.when(), stuck <= 50 ? 350 + stuck : NONE);
        }
        c.sentence("WHEN; NONE: not by 400.");
        LastCook x = Check.at(SLOW);
        x.wheel(0, 51);
        c.due("401", x.when(), NONE);
        x.minute();
        c.due("a minute later", x.when(), 400);
        c.due("never", Check.at(COUPLE).when(), NONE);
        x = three();
        for (int left = 6; left >= 1; left--) {
            c.due("minutes left", x.when(), left);
            x.minute();
        }
        c.due("of the next night", x.when(), 6);
    }

    private void cook() {
        c.sentence("COOK; NONE: not by 400.");
        for (int stuck = 48; stuck <= 52; stuck++) {
            LastCook x = Check.at(SLOW);
            x.wheel(0, stuck);
            c.due("stuck for " + stuck, x.cook(), stuck <= 50 ? 1 : NONE);
        }
        c.due("never", Check.at(COUPLE).cook(), NONE);
        c.due("cat", three().cook(), 2);
        c.due("cat, with one minute left", after(THREE, 5).cook(), 2);
    }

    private void order() {
        c.sentence("ORDER (from 0); NONE: others, not by 400.");
        LastCook x = three();
        int[] due = {NONE, 1, 0, 2, NONE, NONE, NONE};
        for (int i = -1; i < 6; i++) {
            c.due("order(" + i + ")", x.order(i), due[i + 1]);
        }
        c.due("order(MIN)", x.order(Integer.MIN_VALUE), NONE);
        c.due("order(MAX)", x.order(Integer.MAX_VALUE), NONE);
        for (int stuck = 48; stuck <= 52; stuck++) {
            x = Check.at(SLOW);
            x.wheel(0, stuck);
            c.due("a comes, stuck for " + stuck, x.order(0), 0);
            c.due("b comes, a being stuck for " + stuck, x.order(1), stuck <= 50 ? 1 : NONE);
        }
        c.due("never", Check.at(COUPLE).order(0), NONE);
    }

    private void orderThoseThatAre() {
        c.sentence("ORDER: the i-th one who comes IN in this night, those that are, too.");
        LastCook x = three();
        for (int minute = 0; minute < 6; minute++) {
            c.due("first, in minute " + minute, x.order(0), 1);
            c.due("second", x.order(1), 0);
            c.due("third", x.order(2), 2);
            x.minute();
        }
        x.wheel(1, 60);
        c.due("of the next night: ann", x.order(0), 0);
        c.due("then cat", x.order(1), 2);
        c.due("then ben, of this night yet", x.order(2), 1);
        x = Check.at(COUPLE + Check.guest("d", "plain", 5, 5, 1));
        x.hire(0, 1);
        x.hire(1, 0);
        x.minute();
        c.due("who is in, though it is never eaten", x.order(0), 2);
        c.due("who never comes", x.order(1), NONE);
        x = Check.at(Check.guest("a", "plain", 5, 5, 1) + Check.guest("b", "plain", 5, 5, 1));
        c.due("in one minute by numbers", x.order(0) * 10 + x.order(1), 1);
    }

    private void later() {
        c.sentence("LATER: how many yards one is off behind so many (0 to 60) MINUTES.");
        LastCook x = Check.at(Check.guest("a", "plain", 300, 1, 1));
        for (int minutes : new int[] {0, 1, 2, 59, 60}) {
            c.due("behind " + minutes, x.later(0, minutes), 300 - minutes);
        }
        for (int minutes : new int[] {Integer.MIN_VALUE, -1, 61, 62, Integer.MAX_VALUE}) {
            c.due("behind " + minutes, x.later(0, minutes), NONE);
        }
        c.sentence("LATER (0: IN; of a later night as told); NONE: others.");
        x = three();
        int[] ann = {40, 30, 20, 10, 0, 0, 40, 30, 20, 10, 0, 0, 40};
        for (int minutes = 0; minutes < ann.length; minutes++) {
            c.due("ann behind " + minutes, x.later(0, minutes), ann[minutes]);
        }
        x.wheel(0, 1);
        x.run(0, 9);
        c.due("stuck", x.later(0, 1), 40);
        c.due("running", x.later(0, 2), 21);
        c.due("in a later night neither", x.later(0, 7), 30);
        for (int guest : FAR) {
            c.due("of " + guest, x.later(guest, 0), NONE);
            c.due("of " + guest + " later", x.later(guest, 60), NONE);
        }
    }

    private void nights() {
        c.sentence("NIGHTS; NONE: others, not by then.");
        LastCook x = three();
        for (int i : new int[] {1, 2, 5, 6}) {
            c.due("nights(" + i + ")", x.nights(i), 2);
        }
        for (int i : new int[] {Integer.MIN_VALUE, -1, 0, 7, 8, Integer.MAX_VALUE}) {
            c.due("nights(" + i + ")", x.nights(i), NONE);
        }
        x.wheel(1, 4);
        c.due("ben in this night", x.nights(1), 1);
        c.due("cat in the next", x.nights(2), 2);
        Check.minutes(x, 7);
        c.due("ben has cooked", x.guest(1, 7), 1);
        c.due("nights(0) then", x.nights(0), NONE);
        c.due("nights(7) then", x.nights(7), NONE);
        c.due("never", Check.at(COUPLE).nights(1), NONE);
    }

    private void nights2400() {
        c.sentence("NIGHTS: who cooks the i-th time (1 to 6) from now on (2,400 MINUTES at most).");
        String slower = Check.guest("a", "plain", 300, 1, 1) + Check.guest("b", "shy", 300, 1, 1) + Check.guest("d", "great", 300, 1, 2)
            + "bend 50;";
        LastCook x = Check.at(slower);
        c.due("one takes 400", x.when(), 400);
        c.due("six take 2400", x.nights(6), 2);
        x.wheel(0, 1);
        c.due("one takes 401, which is no bar", x.nights(1), 2);
        c.due("five take 2001", x.nights(5), 2);
        c.due("six take 2401", x.nights(6), NONE);
        x.minute();
        c.due("2400", x.nights(6), 2);
        x.minute();
        c.due("2399", x.nights(6), 2);
    }

    private void delay() {
        c.sentence("DELAY of a GUEST on the road: by how long a WHEEL at least (0 to 60 minutes more) he cooks the next time.");
        int[][] due = {{1, 0}, {2, 1}, {3, 2}, {60, 59}, {61, 60}, {62, NONE}, {63, NONE}};
        for (int[] d : due) {
            LastCook x = Check.at(Check.guest("b", "plain", d[0], 1, 1) + Check.guest("a", "plain", 1, 1, 1));
            c.due("b comes in minute " + d[0], x.delay(1), d[1]);
            c.due("nothing is done", x.guest(1, 5), 0);
            x = Check.at(Check.guest("a", "plain", 1, 1, 1) + Check.guest("b", "plain", d[0], 1, 1));
            c.due("with b is ahead of b by number", x.delay(0), d[1] == NONE || d[1] == 60 ? NONE : d[1] + 1);
        }
        LastCook x = Check.at(Check.guest("b", "plain", 61, 1, 1) + Check.guest("a", "plain", 1, 1, 1));
        x.wheel(1, 30);
        c.due("stuck for 30, 30 more", x.delay(1), 30);
        x.wheel(1, 30);
        c.due("stuck for 60 he cooks", x.delay(1), 0);
        x = Check.at(Check.guest("b", "plain", 62, 1, 1) + Check.guest("a", "plain", 1, 1, 1));
        x.wheel(1, 30);
        c.due("no more than 60 with what is", x.delay(1), NONE);
    }

    private void delayOthers() {
        c.sentence("DELAY; NONE: others, IN, by none.");
        LastCook x = after(THREE, 2);
        c.due("ben, still on the road", x.delay(1), 4);
        x.minute();
        c.due("ben, in", x.delay(1), NONE);
        for (int guest : FAR) {
            c.due("of " + guest, x.delay(guest), NONE);
        }
        c.due("a doctor by none", Check.at(Check.guest("a", "doctor", 5, 1, 1) + Check.guest("b", "plain", 1, 1, 1)).delay(0), NONE);
        c.due("a doctor among doctors", Check.at(Check.guest("a", "doctor", 5, 1, 1) + Check.guest("b", "doctor", 1, 1, 1)).delay(0), 0);
        c.due("never eaten", Check.at(COUPLE).delay(0), NONE);
        x = Check.at(SLOW);
        x.wheel(0, 50);
        c.due("b by 400", x.delay(1), 0);
        x.wheel(0, 1);
        c.due("b not by 400", x.delay(1), NONE);
    }

    private void spare() {
        c.sentence("SPARE: by how much RUNNING at least (0 to 9 more) another one does.");
        // The other one comes in minute 10; who runs is ahead of him by number.
        int[][] due = {{20, 0}, {21, 1}, {30, 1}, {31, 2}, {100, 8}, {101, 9}, {110, 9}, {111, NONE}, {300, NONE}};
        for (int[] d : due) {
            LastCook x = Check.at(Check.guest("b", "plain", d[0], 2, 1) + Check.guest("a", "plain", 10, 1, 1));
            c.due("off " + d[0], x.spare(0), d[1]);
            c.due("nothing is done", x.guest(0, 2), 2);
        }
        LastCook x = Check.at(Check.guest("b", "plain", 280, 30, 1) + Check.guest("a", "plain", 7, 1, 1));
        x.run(0, 9);
        c.due("39, and 1 is 40", x.spare(0), 1);
        x = Check.at(Check.guest("b", "plain", 281, 30, 1) + Check.guest("a", "plain", 7, 1, 1));
        x.run(0, 9);
        c.due("no more than 40 with what is", x.spare(0), NONE);
    }

    private void spareOthers() {
        c.sentence("SPARE; NONE: others, IN, by none, it is not EATEN by 400.");
        LastCook x = after(THREE, 2);
        c.due("ben, still on the road", x.spare(1), 0);
        x.minute();
        c.due("ben, in", x.spare(1), NONE);
        for (int guest : FAR) {
            c.due("of " + guest, x.spare(guest), NONE);
        }
        c.due("by none", Check.at(Check.guest("a", "plain", 1, 1, 1)).spare(0), NONE);
        c.due("never eaten", Check.at(COUPLE).spare(0), NONE);
        x = Check.at(SLOW);
        x.wheel(0, 50);
        c.due("by 400: another one does", x.spare(0), 0);
        x.wheel(0, 1);
        c.due("not by 400", x.spare(0), NONE);
        c.due("not by 400, of him who would", x.spare(1), NONE);
    }

    private void best() {
        c.sentence("BEST: the HIRE now by which the next supper tastes the best, if that is better than without "
            + "(as 8 times who hires and who is hired;");
        int[][] due = {{4, NONE}, {5, NONE}, {6, 8}};
        for (int[] d : due) {
            LastCook x = Check.at(Check.guest("a", "plain", 10, 10, d[0]) + Check.guest("b", "plain", 60, 5, 5));
            c.due("a cooks " + d[0] + ", b, the last, 5", x.best(), d[1]);
            c.due("nothing is done", x.guest(0, 6), NONE);
        }
        LastCook x = Check.at(Check.guest("a", "plain", 60, 5, 0) + Check.guest("b", "plain", 10, 10, 20));
        c.due("0 hires 1", x.best(), 1);
        StringBuilder six = new StringBuilder();
        for (int i = 0; i < 6; i++) {
            six.append(Check.guest("g" + (char) ('a' + i), "plain", i == 5 ? 90 : 10, 5, i == 4 ? 20 : i == 5 ? 0 : 10));
        }
        c.due("5 hires 4", Check.at(six.toString()).best(), 8 * 5 + 4);
        x = after(Check.guest("a", "plain", 60, 5, 0) + Check.guest("b", "plain", 10, 10, 20), 1);
        c.due("b is in", x.best(), NONE);
        c.sentence("BEST; NONE: none is better.");
        c.due("one alone", Check.at(Check.guest("a", "plain", 5, 1, 1)).best(), NONE);
        c.due("never eaten", Check.at(COUPLE).best(), NONE);
        c.due("cat is the best", three().best(), NONE);
        x = Check.at(Check.guest("a", "plain", 60, 5, 0) + Check.guest("b", "plain", 10, 10, 20) + "tastes 0-skill;");
        c.due("the worst is the best", x.best(), NONE);
        x = Check.at(Check.guest("a", "plain", 10, 10, 0) + Check.guest("b", "plain", 60, 5, 20) + "tastes 0-skill;");
        c.due("0 is better than -20", x.best(), 8);
    }

    private void bestOf400() {
        c.sentence("what is not EATEN by 400 is worse than all");
        for (int stuck = 48; stuck <= 52; stuck++) {
            LastCook x = Check.at(Check.guest("a", "plain", 300, 1, 1) + Check.guest("b", "plain", 300, 1, 20) + "bend 50;");
            x.wheel(0, stuck);
            c.due("stuck for " + stuck, x.best(), stuck <= 50 ? 1 : NONE);
        }
        LastCook x = Check.at(Check.guest("a", "plain", 300, 1, 1) + Check.guest("b", "plain", 300, 1, 20) + "bend 50;tastes skill-99;");
        x.wheel(0, 50);
        c.due("worse than -98, too: 400", x.best(), 1);
        x.wheel(0, 1);
        c.due("401", x.best(), NONE);
        x = Check.at(Check.guest("a", "plain", 1, 1, 0) + Check.guest("b", "plain", 1, 1, 9) + "tastes skill-99-night;");
        Check.minutes(x, 30);
        c.due("tasted far below what is worse than all", x.count(7) < -2000, true);
        c.due("the next supper is told by itself: none is better", x.best(), NONE);
        x = Check.at(Check.guest("a", "plain", 2, 1, 9) + Check.guest("b", "plain", 3, 1, 0) + "tastes (skill=9)*9-99;");
        Check.minutes(x, 90);
        c.due("thirty nights", x.count(8), 30);
        c.due("b hires a, far below", x.best(), 8);
    }

    private void bestFirst() {
        c.sentence("of equal ones the first");
        String told = Check.guest("a", "plain", 10, 10, 5) + Check.guest("b", "plain", 10, 10, 5) + Check.guest("d", "plain", 60, 5, 2);
        LastCook x = Check.at(told);
        c.due("d hires a, not b", x.best(), 16);
        x.hire(2, 0);
        c.due("then none is better", x.best(), NONE);
        x = Check.at(Check.guest("a", "plain", 60, 5, 2) + Check.guest("b", "plain", 60, 5, 2) + Check.guest("d", "plain", 10, 10, 5));
        c.due("a hires d, not b", x.best(), 2);
    }

    private void excuse() {
        c.sentence("EXCUSE of a GUEST: GUESTS who, on a WHEEL of 60 minutes now, would cook in his place the next time");
        int[][] due = {{60, 2}, {61, 2}, {62, 0}};
        for (int[] d : due) {
            LastCook x = Check.at(Check.guest("a", "plain", d[0], 1, 1) + Check.guest("b", "plain", 1, 1, 1));
            c.due("b in by minute 61, a by " + d[0], x.excuse(0), d[1]);
            c.due("nothing is done", x.guest(1, 5), 0);
        }
        LastCook x = Check.at(Check.guest("b", "plain", 1, 1, 1) + Check.guest("a", "plain", 61, 1, 1));
        c.due("in one minute, ahead by number", x.excuse(1), 0);
        x = Check.at(Check.guest("a", "plain", 62, 1, 1) + Check.guest("b", "plain", 1, 1, 1));
        x.wheel(1, 30);
        c.due("60 at most with what is", x.excuse(0), 0);
        x = three();
        c.due("not he himself", x.excuse(2), 3);
        x = Check.at(Check.guest("a", "plain", 5, 5, 1) + Check.guest("b", "doctor", 50, 5, 1) + Check.guest("d", "plain", 5, 5, 1));
        x.minute();
        c.due("who cooks may be in already; a doctor would not", x.excuse(2), 0);
        x = Check.at(Check.guest("a", "plain", 30, 5, 1) + Check.guest("b", "great", 50, 5, 1));
        c.due("a would not: b waits for him", x.excuse(1), 0);
    }

    private void excuseNone() {
        c.sentence("(bits; if he does not cook: none)");
        LastCook x = three();
        c.due("ann does not cook", x.excuse(0), 0);
        c.due("ben does not cook", x.excuse(1), 0);
        c.due("never eaten", Check.at(COUPLE).excuse(0), 0);
        Check.minutes(x, 3);
        c.due("ben, in", x.excuse(1), 0);
        c.due("ben, in, can lose no wheel", x.excuse(2), 1);
        c.sentence("EXCUSE, as bits; NONE: others.");
        for (int guest : FAR) {
            c.due("of " + guest, x.excuse(guest), NONE);
        }
    }

    private void meets() {
        c.sentence("MEETS of two: behind how many MINUTES (0 to 60) they are as far off on the road for the first time.");
        for (int apart : new int[] {0, 1, 2, 59, 60, 61, 62}) {
            LastCook x = Check.at(Check.guest("a", "plain", 120, 1, 1) + Check.guest("b", "plain", 120 + apart, 2, 1));
            c.due(apart + " yards apart", x.meets(0, 1), apart <= 60 ? apart : NONE);
            c.due(apart + " yards apart, the other way", x.meets(1, 0), apart <= 60 ? apart : NONE);
        }
        LastCook x = Check.at(Check.guest("a", "plain", 2, 1, 1) + Check.guest("b", "plain", 4, 2, 1) + Check.guest("d", "plain", 300, 1, 1));
        c.due("both in is not on the road", x.meets(0, 1), NONE);
        x = Check.at(Check.guest("a", "plain", 3, 1, 1) + Check.guest("b", "plain", 5, 2, 1));
        c.due("one yard off is", x.meets(0, 1), 2);
        x.wheel(0, 1);
        Check.minutes(x, 2);
        c.due("passed: not before the next night", x.meets(0, 1), 2 + 2);
        c.due("at the bend", Check.at(COUPLE).meets(0, 1), 4);
    }

    private void meetsOthers() {
        c.sentence("MEETS; NONE: others, the same, not by 60.");
        LastCook x = three();
        for (int g = 0; g < 3; g++) {
            c.due("the same " + g, x.meets(g, g), NONE);
            for (int far : FAR) {
                c.due(g + " and " + far, x.meets(g, far), NONE);
                c.due(far + " and " + g, x.meets(far, g), NONE);
            }
        }
        c.due("ben and cat at once", x.meets(1, 2), 0);
    }

    private void near() {
        c.sentence("NEAR: who is on the road no more than so many yards off (bits; 0 to 300).");
        LastCook x = Check.at(Check.guest("a", "plain", 1, 1, 1) + Check.guest("b", "plain", 150, 1, 1) + Check.guest("d", "plain", 300, 1, 1));
        int[][] due = {{0, 0}, {1, 1}, {2, 1}, {149, 1}, {150, 3}, {151, 3}, {299, 3}, {300, 7}};
        for (int[] d : due) {
            c.due("near(" + d[0] + ")", x.near(d[0]), d[1]);
        }
        x.minute();
        c.due("who is in is not on the road", x.near(300), 6);
        c.due("nor within 0", x.near(0), 0);
        c.sentence("NEAR, as bits; NONE: others.");
        for (int yards : new int[] {Integer.MIN_VALUE, -1, 301, 302, Integer.MAX_VALUE}) {
            c.due("near(" + yards + ")", x.near(yards), NONE);
        }
        StringBuilder six = new StringBuilder();
        for (int i = 0; i < 6; i++) {
            six.append(Check.guest("g" + (char) ('a' + i), "plain", 300, 1, 1));
        }
        c.due("six", Check.at(six.toString()).near(300), 63);
    }

    private void with() {
        c.sentence("WITH: how many others come IN in this night in the same MINUTE as a GUEST (who is IN, or will be).");
        StringBuilder six = new StringBuilder();
        for (int i = 0; i < 6; i++) {
            six.append(Check.guest("g" + (char) ('a' + i), "plain", i < 3 ? 4 : i < 5 ? 7 : 9, 2, 1));
        }
        LastCook x = Check.at(six.toString());
        int[] due = {2, 2, 2, 1, 1, 0};
        for (int minute = 0; minute < 5; minute++) {
            for (int g = 0; g < 6; g++) {
                c.due("with(" + g + ") in minute " + minute, x.with(g), due[g]);
            }
            x.minute();
        }
        c.due("of the next night", x.with(0), 2);
        x.wheel(0, 60);
        c.due("of this night alone", x.with(0), 0);
        c.due("the others", x.with(1), 1);
        x = Check.at(Check.guest("a", "plain", 1, 1, 1) + Check.guest("b", "plain", 1, 1, 1));
        c.due("all in one minute", x.with(0) * 10 + x.with(1), 11);
    }

    private void with400() {
        c.sentence("WITH; NONE: others, not by 400.");
        for (int stuck = 49; stuck <= 51; stuck++) {
            LastCook x = Check.at(SLOW);
            x.wheel(0, stuck);
            c.due("a, stuck for " + stuck, x.with(0), 0);
            c.due("b, a being stuck for " + stuck, x.with(1), stuck <= 50 ? 0 : NONE);
        }
        c.due("never", Check.at(COUPLE).with(1), NONE);
        LastCook x = three();
        for (int guest : FAR) {
            c.due("of " + guest, x.with(guest), NONE);
        }
        x = Check.at(COUPLE + Check.guest("d", "plain", 5, 5, 1));
        x.hire(0, 1);
        x.hire(1, 0);
        x.minute();
        c.due("who is in, though it is never eaten", x.with(2), 0);
    }

    private void boy() {
        c.sentence("BOY: how many are on the road behind so many (0 to 60) MINUTES.");
        LastCook x = Check.at(Check.guest("a", "plain", 1, 1, 1) + Check.guest("b", "plain", 60, 1, 1) + Check.guest("d", "plain", 61, 1, 1)
            + Check.guest("e", "plain", 300, 1, 1));
        int[][] due = {{0, 4}, {1, 3}, {2, 3}, {59, 3}, {60, 2}};
        for (int[] d : due) {
            c.due("boy(" + d[0] + ")", x.boy(d[0]), d[1]);
        }
        c.sentence("BOY; NONE: others.");
        for (int minutes : new int[] {Integer.MIN_VALUE, -1, 61, 62, Integer.MAX_VALUE}) {
            c.due("boy(" + minutes + ")", x.boy(minutes), NONE);
        }
        x = three();
        c.due("one", x.boy(5), 1);
        c.due("all, in the next night", x.boy(6), 3);
        c.due("never none: it is eaten then", Check.at(Check.guest("a", "plain", 1, 1, 1)).boy(1), 1);
    }

    private void held() {
        c.sentence("HELD: who holds back now at the bend, or nearer (bits).");
        for (int off = 18; off <= 23; off++) {
            String others = Check.guest("z", "plain", 300, 1, 1) + "bend 20;";
            int due = off <= 20 ? 1 : 0;
            c.due("shy, off " + off, Check.at(Check.guest("a", "shy", off, 1, 1) + others).held(), due);
            c.due("great, off " + off, Check.at(Check.guest("a", "great", off, 1, 1) + others).held(), due);
            c.due("plain, off " + off, Check.at(Check.guest("a", "plain", off, 1, 1) + others).held(), 0);
            LastCook x = Check.at(Check.guest("a", "doctor", off, 1, 1) + others);
            x.hire(1, 0);
            c.due("hired, off " + off, x.held(), due);
        }
        c.due("a shy one alone", Check.at(Check.guest("a", "shy", 1, 1, 1)).held(), 0);
        c.due("a great one alone", Check.at(Check.guest("a", "great", 1, 1, 1)).held(), 0);
        LastCook x = Check.at(Check.guest("a", "shy", 9, 9, 1) + Check.guest("b", "plain", 1, 1, 1));
        c.due("nobody is in", x.held(), 1);
        x = Check.at(Check.guest("a", "shy", 9, 2, 1) + Check.guest("b", "plain", 1, 1, 1));
        x.minute();
        c.due("one is in", x.held(), 0);
        x = Check.at(Check.guest("a", "plain", 9, 2, 1) + Check.guest("b", "plain", 3, 3, 1));
        x.hire(1, 0);
        c.due("who hired is not in", x.held(), 1);
        x.minute();
        c.due("who hired is in", x.held(), 0);
        c.due("none", new LastCook().held(), 0);
    }

    private void fair() {
        c.sentence("FAIR: the greatest number of times somebody has cooked less the least.");
        LastCook x = three();
        for (int nights = 0; nights < 5; nights++) {
            c.due("cat " + nights + " times", x.fair(), nights);
            Check.minutes(x, 6);
        }
        x = Check.at(Check.guest("a", "plain", 1, 1, 1));
        Check.minutes(x, 5);
        c.due("one alone: the greatest is the least", x.fair(), 0);
        x = Check.at(Check.guest("a", "plain", 3, 1, 1) + Check.guest("b", "plain", 1, 1, 1));
        Check.minutes(x, 6);
        c.due("the first one twice", x.fair(), 2);
        x = Check.at(Check.guest("a", "plain", 1, 1, 1) + Check.guest("b", "plain", 1, 1, 1));
        x.minute();
        c.due("b once", x.fair(), 1);
        x.wheel(0, 1);
        Check.minutes(x, 2);
        c.due("each once", x.fair(), 0);
        x.undo();
        c.due("undone", x.fair(), 1);
        c.sentence("FAIR (0: nobody).");
        c.due("nobody", new LastCook().fair(), 0);
        x.supper();
        c.due("nobody any more", x.fair(), 0);
    }
}
