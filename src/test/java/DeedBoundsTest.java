/** Each sentence that bounds what is done by hand, the minute, undoing and marks: at the bound, one below it, one above it. */
public final class DeedBoundsTest {
    private static final int NONE = LastCook.NONE;
    private static final int[] FAR = {Integer.MIN_VALUE, -1000, -2, -1, 3, 4, 5, 6, 7, 31, 32, 1000, Integer.MAX_VALUE};
    /** ann is in by minute 4, ben by 3, cat by 6. */
    private static final String THREE = Check.guest("ann", "plain", 40, 10, 3) + Check.guest("ben", "plain", 30, 10, 7)
        + Check.guest("cat", "plain", 30, 5, 12);

    private final Check c;

    private DeedBoundsTest(String[] args) {
        c = new Check(args);
    }

    public static void main(String[] args) {
        DeedBoundsTest t = new DeedBoundsTest(args);
        t.guest();
        t.guestWhat();
        t.wheelMore();
        t.wheel();
        t.runMore();
        t.run();
        t.hireWho();
        t.hire();
        t.stuck();
        t.oneAtLeast();
        t.bend();
        t.shy();
        t.great();
        t.hired();
        t.byNumbers();
        t.doctors();
        t.nextNight();
        t.nextMinute();
        t.undoKinds();
        t.undoSixteen();
        t.undoNothing();
        t.marks();
        t.markAnswers();
        t.markHolds();
        t.count();
        t.calls512();
        t.c.end();
    }

    private static LastCook three() {
        return Check.at(THREE);
    }

    private static LastCook after(String supper, int minutes) {
        LastCook x = Check.at(supper);
        Check.minutes(x, minutes);
        return x;
    }

    private void guest() {
        c.sentence("A GUEST is on the road, so many yards off, or IN.");
        LastCook x = after(THREE, 2);
        c.due("10 yards off", x.guest(1, 1), 10);
        c.due("on the road", x.guest(1, 4), NONE);
        x.minute();
        c.due("0: in", x.guest(1, 1), 0);
        c.due("the first", x.guest(1, 4), 0);
        x = after(Check.guest("a", "plain", 31, 30, 1) + Check.guest("b", "plain", 30, 30, 1) + Check.guest("d", "plain", 29, 30, 1), 1);
        c.due("1 yard off is on the road", x.guest(0, 1) * 10 + x.guest(0, 4), 9);
        c.due("just 0", x.guest(1, 1) * 10 + x.guest(1, 4), 0);
        c.due("beyond the step is 0", x.guest(2, 1) * 10 + x.guest(2, 4), 1);
    }

    private void guestWhat() {
        c.sentence("Of a GUEST, what 0: KIND (0 plain, 1 doctor, 2 shy, 3 great), 1: yards off (0: IN), 2: pace, 3: cooks, 4: the place "
            + "in which he came IN (from 0; NONE: on the road), 5: minutes stuck, 6: by whom he is hired (NONE: nobody), 7: how often he "
            + "has cooked; -2: others.");
        LastCook x = after(THREE, 6);
        x.wheel(0, 2);
        x.run(1, 3);
        x.hire(2, 1);
        int[][] due = {{0, 40, 10, 3, NONE, 2, NONE, 0}, {0, 30, 13, 7, NONE, 0, 2, 0}, {0, 30, 5, 12, NONE, 0, NONE, 1}};
        for (int g = 0; g < 3; g++) {
            for (int what = 0; what < 8; what++) {
                c.due("guest(" + g + ", " + what + ")", x.guest(g, what), due[g][what]);
            }
            for (int what : new int[] {Integer.MIN_VALUE, -2, -1, 8, 9, Integer.MAX_VALUE}) {
                c.due("guest(" + g + ", " + what + ")", x.guest(g, what), -2);
            }
        }
        for (int g : FAR) {
            for (int what = -1; what <= 8; what++) {
                c.due("guest(" + g + ", " + what + ")", x.guest(g, what), -2);
            }
        }
        Check.minutes(x, 6);
        c.due("cat is in", x.guest(2, 4), 1);
        c.due("hired by her yet", x.guest(1, 6), 2);
    }

    private void wheelMore() {
        c.sentence("WHEEL: one on the road is stuck for so many minutes more, 60 at most.");
        LastCook x = three();
        c.due("58", x.wheel(0, 58), 58);
        c.due("59", x.wheel(0, 1), 59);
        c.due("60", x.wheel(0, 1), 60);
        c.due("61 is 60", x.wheel(0, 1), 60);
        c.due("120 is 60", x.wheel(0, 60), 60);
        c.due("minutes stuck", x.guest(0, 5), 60);
        c.due("another one is not", x.guest(1, 5), 0);
        c.due("each was done", x.count(11), 5);
        x.minute();
        c.due("59 behind a minute", x.guest(0, 5), 59);
        c.due("two more are 60", x.wheel(0, 2), 60);
        x.undo();
        c.due("undone: 59", x.guest(0, 5), 59);
        Check.minutes(x, 59);
        c.due("he stayed for 60 minutes", x.guest(0, 1) * 100 + x.guest(0, 5), 4000);
        x.minute();
        c.due("then goes", x.guest(0, 1), 30);
    }

    private void refused(LastCook x, String call, String ahead) {
        c.alike(call + " leaves all as it is", Check.picture(x), ahead);
    }

    private void wheel() {
        c.sentence("WHEEL (1 to 60): minutes stuck then; NONE: others, IN.");
        for (int minutes : new int[] {1, 2, 59, 60}) {
            c.due("by " + minutes, three().wheel(1, minutes), minutes);
        }
        LastCook x = after(THREE, 3);
        String ahead = Check.picture(x);
        for (int minutes : new int[] {Integer.MIN_VALUE, -1, 0, 61, 62, Integer.MAX_VALUE}) {
            c.due("by " + minutes, x.wheel(0, minutes), NONE);
        }
        for (int guest : FAR) {
            c.due("of " + guest, x.wheel(guest, 1), NONE);
        }
        c.due("of ben, who is in", x.wheel(1, 1), NONE);
        refused(x, "wheel", ahead);
        c.due("of ann, who is not", x.wheel(0, 1), 1);
        x = three();
        x.wheel(0, 60);
        c.due("61 is refused at 60, too", x.wheel(0, 61), NONE);
        c.due("one was done", x.count(11), 1);
    }

    private void runMore() {
        c.sentence("RUN: one on the road has a pace of so much more in this night, 40 at most.");
        LastCook x = Check.at(Check.guest("a", "plain", 300, 30, 1) + Check.guest("b", "plain", 300, 1, 1));
        c.due("39", x.run(0, 9), 39);
        c.due("40", x.run(0, 1), 40);
        c.due("41 is 40", x.run(0, 1), 40);
        c.due("49 is 40", x.run(0, 9), 40);
        c.due("each was done", x.count(11), 4);
        c.due("another one is as told", x.guest(1, 2), 1);
        x.minute();
        c.due("he goes 40", x.guest(0, 1), 260);
        x.undo();
        x.undo();
        x.undo();
        c.due("undone one by one: 40", x.guest(0, 2), 40);
        x.undo();
        c.due("39 again", x.guest(0, 2), 39);
        x = Check.at(Check.guest("a", "plain", 300, 22, 1));
        c.due("31", x.run(0, 9), 31);
        c.due("40, not cut", x.run(0, 9), 40);
        Check.minutes(x, 8);
        c.due("eaten", x.count(3), 1);
        c.due("in this night alone", x.guest(0, 2), 22);
        x = Check.at(Check.guest("a", "plain", 300, 30, 1) + "snow 9;");
        x.run(0, 9);
        x.minute();
        c.due("less the snow", x.guest(0, 1), 270);
    }

    private void run() {
        c.sentence("RUN (1 to 9): pace then; NONE: others, IN.");
        for (int more : new int[] {1, 2, 8, 9}) {
            c.due("by " + more, three().run(2, more), 5 + more);
        }
        LastCook x = after(THREE, 3);
        String ahead = Check.picture(x);
        for (int more : new int[] {Integer.MIN_VALUE, -1, 0, 10, 11, Integer.MAX_VALUE}) {
            c.due("by " + more, x.run(0, more), NONE);
        }
        for (int guest : FAR) {
            c.due("of " + guest, x.run(guest, 1), NONE);
        }
        c.due("of ben, who is in", x.run(1, 1), NONE);
        refused(x, "run", ahead);
        c.due("of ann, who is not", x.run(0, 1), 11);
        x.wheel(2, 1);
        c.due("of one who is stuck", x.run(2, 1), 6);
    }

    private void hireWho() {
        c.sentence("HIRE: the first one, on the road, hires another one who is on the road, hired by nobody in this night.");
        LastCook x = after(THREE, 2);
        c.due("both on the road", x.hire(1, 0), true);
        x = after(THREE, 3);
        c.due("the first one is in", x.hire(1, 0), false);
        c.due("the other one is in", x.hire(0, 1), false);
        c.due("neither is", x.hire(0, 2), true);
        c.due("hired by him", x.guest(2, 6), 0);
        c.due("hired already, by the same", x.hire(0, 2), false);
        c.due("who is hired may hire", x.hire(2, 0), true);
        x = three();
        x.hire(0, 2);
        Check.minutes(x, 4);
        c.due("ann is in", x.guest(0, 4), 1);
        c.due("cat is hired in this night yet", x.guest(2, 6), 0);
        x = Check.at(THREE + Check.guest("dan", "plain", 300, 1, 1));
        x.hire(0, 2);
        Check.minutes(x, 4);
        c.due("though who hired her is in", x.hire(3, 2), false);
        x = three();
        x.hire(0, 1);
        x.undo();
        c.due("undone, by another one", x.hire(2, 1), true);
        x = three();
        x.hire(0, 1);
        Check.minutes(x, 6);
        c.due("the next night", x.count(3), 1);
        c.due("hired by nobody in it", x.hire(2, 1), true);
    }

    private void hire() {
        c.sentence("HIRE: true; false: others, the same, it can't be.");
        LastCook x = after(THREE, 3);
        x.hire(0, 2);
        String ahead = Check.picture(x);
        for (int g = 0; g < 3; g++) {
            c.due("the same " + g, x.hire(g, g), false);
            for (int far : FAR) {
                c.due(g + " hires " + far, x.hire(g, far), false);
                c.due(far + " hires " + g, x.hire(far, g), false);
                c.due(far + " hires himself", x.hire(far, far), false);
            }
        }
        c.due("it can't be: hired", x.hire(0, 2), false);
        c.due("it can't be: in", x.hire(0, 1), false);
        refused(x, "hire", ahead);
        LastCook one = Check.at(Check.guest("a", "plain", 5, 1, 1));
        c.due("one alone", one.hire(0, 0), false);
        c.due("one and none", one.hire(0, 1), false);
    }

    private void stuck() {
        c.sentence("each one on the road who is stuck is so for a minute less, and stays");
        LastCook x = three();
        x.wheel(0, 1);
        x.wheel(1, 2);
        x.minute();
        c.due("1 is 0, and stayed", x.guest(0, 5) * 100 + x.guest(0, 1), 40);
        c.due("2 is 1, and stayed", x.guest(1, 5) * 100 + x.guest(1, 1), 130);
        c.due("0 went", x.guest(2, 5) * 100 + x.guest(2, 1), 25);
        x.minute();
        c.due("0 goes", x.guest(0, 5) * 100 + x.guest(0, 1), 30);
        c.due("1 is 0, and stays", x.guest(1, 5) * 100 + x.guest(1, 1), 30);
    }

    private void oneAtLeast() {
        c.sentence("each other one goes as many yards as the pace is, less the snow of the minute, 1 at least");
        for (int pace = 1; pace <= 12; pace++) {
            for (int snow = 0; snow <= 9; snow++) {
                LastCook x = after(Check.guest("a", "plain", 100, pace, 1) + "snow " + snow + ";", 1);
                c.due("pace " + pace + " snow " + snow, x.guest(0, 1), 100 - (pace > snow ? pace - snow : 1));
            }
        }
        LastCook x = after(Check.guest("a", "plain", 100, 30, 1) + "snow 9 0;", 2);
        c.due("by the snow of each minute", x.guest(0, 1), 100 - 21 - 30);
    }

    private void bend() {
        c.sentence("but one who holds back goes no nearer to the step than the bend (nearer already: stays)");
        for (int off = 1; off <= 24; off++) {
            String told = Check.guest("a", "shy", off, 6, 1) + Check.guest("b", "plain", 300, 1, 1) + "bend 12;";
            LastCook x = Check.at(told);
            x.minute();
            c.due("off " + off, x.guest(0, 1), off <= 12 ? off : Math.max(12, off - 6));
            Check.minutes(x, 5);
            c.due("off " + off + ", later", x.guest(0, 1), Math.min(12, off));
        }
        for (int bend : new int[] {1, 2, 49, 50}) {
            LastCook x = after(Check.guest("a", "great", 60, 30, 1) + Check.guest("b", "plain", 300, 1, 1) + "bend " + bend + ";", 9);
            c.due("bend " + bend, x.guest(0, 1), bend);
        }
        LastCook x = Check.at(Check.guest("a", "shy", 12, 6, 1) + Check.guest("b", "plain", 300, 1, 1));
        x.wheel(0, 3);
        x.minute();
        c.due("stuck, he does not even go to the bend", x.guest(0, 1), 12);
    }

    private void shy() {
        c.sentence("a shy one as long as nobody is IN, if there are others");
        LastCook x = Check.at(Check.guest("a", "shy", 3, 1, 1));
        Check.minutes(x, 2);
        c.due("one alone goes in", x.minute(), 0);
        x = after(Check.guest("a", "shy", 3, 1, 1) + Check.guest("b", "plain", 6, 2, 1), 3);
        c.due("b is in by this minute", x.guest(1, 4), 0);
        c.due("a stayed in it", x.guest(0, 1), 3);
        x.minute();
        c.due("a goes in the next", x.guest(0, 1), 2);
        x = after(Check.guest("a", "shy", 3, 1, 1) + Check.guest("b", "shy", 6, 2, 1), 100);
        c.due("two shy ones", x.count(6), 3);
        x = after(Check.guest("a", "shy", 30, 2, 1) + Check.guest("b", "doctor", 1, 1, 1), 15);
        c.due("one is in by then: not held at the bend", x.guest(0, 4), NONE);
        c.due("eaten, the next night", x.count(3), 1);
        x = after(Check.guest("a", "shy", 3, 1, 1) + Check.guest("b", "great", 3, 1, 1), 50);
        c.due("shy and great wait for each other", x.count(6), 3);
    }

    private void great() {
        c.sentence("a great one as long as one who is not great is not IN");
        LastCook x = after(Check.guest("a", "great", 3, 3, 1) + Check.guest("b", "great", 6, 3, 1), 1);
        c.due("great ones alone go in", x.guest(0, 4), 0);
        String told = Check.guest("a", "great", 3, 1, 1) + Check.guest("b", "plain", 2, 1, 1) + Check.guest("d", "doctor", 4, 1, 1)
            + Check.guest("e", "great", 60, 1, 1);
        x = after(told, 3);
        c.due("one of two is in", x.guest(0, 1), 3);
        x.minute();
        c.due("both are in by this minute", x.guest(0, 1), 3);
        x.minute();
        c.due("then he goes, another great one being far off", x.guest(0, 1), 2);
        x = after(Check.guest("a", "great", 3, 3, 1), 0);
        c.due("a great one alone", x.minute(), 0);
    }

    private void hired() {
        c.sentence("who is hired as long as the one who hired him is not IN (all by who was IN ahead of this minute)");
        LastCook x = Check.at(Check.guest("a", "plain", 5, 1, 1) + Check.guest("b", "plain", 30, 20, 9));
        x.hire(0, 1);
        Check.minutes(x, 4);
        c.due("at the bend", x.guest(1, 1), 10);
        x.minute();
        c.due("a is in by this minute", x.guest(0, 4) * 100 + x.guest(1, 1), 10);
        c.due("then b goes in, and cooks", x.minute(), 1);
        x = Check.at(Check.guest("a", "plain", 5, 1, 1) + Check.guest("b", "plain", 7, 7, 9));
        x.hire(0, 1);
        Check.minutes(x, 5);
        c.due("nearer than the bend", x.guest(1, 1), 7);
        x = Check.at(Check.guest("a", "plain", 5, 1, 1) + Check.guest("b", "plain", 5, 1, 1));
        x.hire(0, 1);
        x.hire(1, 0);
        Check.minutes(x, 100);
        c.due("each by the other", x.count(6), 3);
        x = Check.at(Check.guest("a", "plain", 5, 5, 1) + Check.guest("b", "plain", 5, 5, 1) + Check.guest("d", "plain", 5, 5, 1));
        x.hire(0, 1);
        x.hire(1, 2);
        x.minute();
        c.due("the first alone is in", x.count(6), 6);
        x.minute();
        c.due("then who was hired by him", x.count(6), 4);
        c.due("the last of them cooks", x.minute(), 2);
    }

    private void byNumbers() {
        c.sentence("Who is 0 yards off is IN: in one minute by numbers.");
        StringBuilder told = new StringBuilder();
        for (int i = 0; i < 5; i++) {
            told.append(Check.guest("g" + (char) ('a' + i), "plain", 5 - i, 5, i));
        }
        told.append(Check.guest("z", "plain", 300, 1, 1));
        LastCook x = after(told.toString(), 1);
        for (int i = 0; i < 5; i++) {
            c.due("place of " + i, x.guest(i, 4), i);
        }
        c.due("on the road", x.guest(5, 4), NONE);
        x = after(Check.guest("a", "plain", 9, 3, 1) + Check.guest("b", "plain", 1, 1, 2) + Check.guest("d", "plain", 9, 3, 3)
            + Check.guest("e", "plain", 99, 3, 3), 3);
        c.due("b, a, d", x.guest(1, 4) * 100 + x.guest(0, 4) * 10 + x.guest(2, 4), 12);
    }

    private void doctors() {
        c.sentence("the last one who came IN cooks, but for doctors (if all are: the last one)");
        String[] kinds = {"plain", "doctor"};
        for (int bits = 0; bits < 8; bits++) {
            StringBuilder told = new StringBuilder();
            for (int g = 0; g < 3; g++) {
                told.append(Check.guest("g" + (char) ('a' + g), kinds[bits >> g & 1], g + 1, 1, g));
            }
            int last = (bits & 4) == 0 ? 2 : (bits & 2) == 0 ? 1 : (bits & 1) == 0 ? 0 : 2;
            LastCook x = Check.at(told.toString());
            Check.minutes(x, 2);
            c.due("doctors " + bits, x.minute(), last);
            c.due("has cooked", x.guest(last, 7), 1);
        }
        LastCook x = Check.at(Check.guest("a", "doctor", 1, 1, 1));
        c.due("a doctor alone", x.minute(), 0);
        x = Check.at(Check.guest("a", "plain", 5, 5, 1) + Check.guest("b", "plain", 5, 5, 1) + Check.guest("d", "doctor", 5, 5, 1));
        c.due("in one minute: the last by number who is none", x.minute(), 1);
    }

    private void nextNight() {
        c.sentence("The next night begins, with minute 0: all are on the road as told, nobody is hired, stuck, runs.");
        LastCook x = three();
        x.hire(0, 1);
        x.hire(1, 2);
        x.run(0, 9);
        x.run(2, 9);
        x.wheel(0, 1);
        for (int i = 0; i < 60 && x.minute() == NONE; i++) {
            c.due("this night", x.count(3), 0);
        }
        c.due("night", x.count(3), 1);
        c.due("minute", x.count(4), 0);
        c.due("on the road", x.count(6), 7);
        int[][] told = {{40, 10}, {30, 10}, {30, 5}};
        for (int g = 0; g < 3; g++) {
            c.due("yards of " + g, x.guest(g, 1), told[g][0]);
            c.due("pace of " + g, x.guest(g, 2), told[g][1]);
            c.due("place of " + g, x.guest(g, 4), NONE);
            c.due("stuck " + g, x.guest(g, 5), 0);
            c.due("hired " + g, x.guest(g, 6), NONE);
        }
        c.due("cooked", x.guest(2, 7), 1);
    }

    private void nextMinute() {
        c.sentence("MINUTE: who cooks by it (NONE: it is not EATEN).");
        LastCook x = three();
        for (int minute = 0; minute < 6; minute++) {
            c.due("minute", x.count(4), minute);
            c.due("who cooks by " + minute, x.minute(), minute == 5 ? 2 : NONE);
        }
        c.due("minute 0", x.count(4), 0);
        c.sentence("Else it is the next minute.");
        x = Check.at(Check.guest("a", "shy", 3, 1, 1) + Check.guest("b", "shy", 6, 2, 1));
        Check.minutes(x, 300);
        c.due("though nobody goes", x.count(4), 300);
        x = new LastCook();
        Check.minutes(x, 300);
        c.due("though nobody is there", x.count(4) * 10 + x.count(8), 3000);
    }

    private void undoKinds() {
        c.sentence("UNDO: WHEELS, RUNS, HIRES, MINUTES, the last 16, one by one.");
        LastCook x = three();
        String[] ahead = new String[6];
        for (int i = 0; i < 5; i++) {
            ahead[i] = Check.picture(x);
            switch (i) {
                case 0: x.wheel(0, 3); break;
                case 1: x.run(1, 4); break;
                case 2: x.hire(0, 2); break;
                case 3: x.minute(); break;
                default: x.wheel(0, 60); break;
            }
            c.due("can be undone", x.count(11), i + 1);
        }
        for (int i = 4; i >= 0; i--) {
            c.due("undo", x.undo(), true);
            c.alike("as ahead of " + i, Check.picture(x), ahead[i]);
        }
        x = after(THREE, 5);
        String eve = Check.picture(x);
        x.minute();
        c.due("eaten", x.count(8), 1);
        x.undo();
        c.alike("not eaten", Check.picture(x), eve);
        Check.tell(x, "ab");
        Check.minutes(x, 1);
        x.see(0, 0, true);
        x.undo();
        c.due("what is seen, and the tape, stay", x.count(10) * 10 + x.count(12), 12);
    }

    private void undoSixteen() {
        c.sentence("the last 16, one by one");
        for (int deeds : new int[] {15, 16, 17, 31, 32, 33, 50}) {
            LastCook x = Check.at(Check.guest("a", "plain", 300, 1, 1));
            Check.minutes(x, deeds);
            int can = Math.min(16, deeds);
            c.due("of " + deeds, x.count(11), can);
            for (int i = 1; i <= can; i++) {
                c.due("undo " + i, x.undo(), true);
                c.due("off behind " + i, x.guest(0, 1), 300 - deeds + i);
                c.due("left", x.count(11), can - i);
            }
            c.due("no more", x.undo(), false);
            c.due("off", x.guest(0, 1), 300 - deeds + can);
        }
        LastCook x = Check.at(Check.guest("a", "plain", 300, 1, 1));
        Check.minutes(x, 20);
        for (int i = 0; i < 10; i++) {
            x.undo();
        }
        Check.minutes(x, 8);
        c.due("6 and 8", x.count(11), 14);
        Check.minutes(x, 3);
        c.due("17 are 16", x.count(11), 16);
        for (int i = 0; i < 16; i++) {
            x.undo();
        }
        c.due("minute 5", x.count(4) * 10 + x.count(11), 50);
    }

    private void undoNothing() {
        c.sentence("UNDO: true; false: nothing can be.");
        LastCook x = three();
        String ahead = Check.picture(x);
        c.due("at first", x.undo(), false);
        x.wheel(0, 0);
        x.run(0, 0);
        x.hire(0, 0);
        c.due("what was refused", x.undo(), false);
        c.alike("all as it is", Check.picture(x), ahead);
        x.minute();
        c.due("one", x.undo(), true);
        c.due("no second", x.undo(), false);
        x.minute();
        x.mark(0, false);
        c.due("a mark laid is no bar", x.count(11), 1);
        x.mark(0, true);
        c.due("behind going back", x.undo(), false);
        x.minute();
        Check.supper(x, THREE);
        c.due("behind a supper", x.undo(), false);
        x.minute();
        Check.night(x, "minute;");
        c.due("behind a night", x.undo(), true);
    }

    private void marks() {
        c.sentence("MARKS 0 to 3 hold how it is");
        LastCook x = three();
        for (int mark = -1; mark <= 4; mark++) {
            c.due("lay " + mark, x.mark(mark, false), mark >= 0 && mark <= 3);
            x.minute();
        }
        for (int mark = 4; mark >= -1; mark--) {
            boolean there = mark >= 0 && mark <= 3;
            c.due("back to " + mark, x.mark(mark, true), there);
            if (there) {
                c.due("each its own", x.count(4), mark + 1);
            }
        }
        for (int mark : new int[] {Integer.MIN_VALUE, -5, 5, Integer.MAX_VALUE}) {
            c.due("lay " + mark, x.mark(mark, false), false);
            c.due("back to " + mark, x.mark(mark, true), false);
        }
    }

    private void markAnswers() {
        c.sentence("A MARK is laid (back: gone back to): true; false: none such, nothing is on it (back).");
        LastCook x = after(THREE, 2);
        String ahead = Check.picture(x);
        for (int mark = 0; mark <= 3; mark++) {
            c.due("nothing on " + mark, x.mark(mark, true), false);
        }
        c.alike("all as it is", Check.picture(x), ahead);
        c.due("lay 2", x.mark(2, false), true);
        c.alike("as it is", Check.picture(x), ahead);
        for (int mark = 0; mark <= 3; mark++) {
            c.due("back to " + mark, x.mark(mark, true), mark == 2);
        }
        c.due("once more", x.mark(2, true), true);
        x.minute();
        c.due("laid over", x.mark(2, false), true);
        x.minute();
        x.mark(2, true);
        c.due("the newer one", x.count(4), 3);
    }

    private void markHolds() {
        c.sentence("the NIGHT, what is SEEN (nothing can be undone when one is gone back to)");
        LastCook x = after(THREE, 7);
        x.wheel(0, 2);
        x.run(1, 3);
        x.hire(2, 1);
        Check.night(x, "run ben 4;hire ann ben;hire cat ben;wheel cat 2;" + Check.times(9, "minute;"));
        c.due("judged as told", x.judged(0) * 100 + x.judged(1), 211);
        x.see(3, 10, true);
        x.mark(1, false);
        Check.supper(x, "?");
        String then = Check.picture(x);
        Check.night(x, "hire cat ann;wheel ann 60;run cat 9;run ann 1;" + Check.times(9, "hire ben cat;"));
        c.due("judged as told now", x.judged(0) * 100 + x.judged(1), 499);
        x.see(0, 300, false);
        Check.minutes(x, 40);
        Check.tell(x, "abc");
        c.due("back", x.mark(1, true), true);
        c.due("nothing can be undone", x.count(11), 0);
        c.due("nor is", x.undo(), false);
        c.due("the tape is no part of it", x.count(12), 3);
        c.alike("all else is as it was", Check.picture(x).replaceFirst("(( c-?\\d+){11}) c\\d+", "$1"),
            then.replaceFirst("(( c-?\\d+){11}) c\\d+", "$1"));
        x.mark(0, false);
        x.see(0, 0, true);
        x.minute();
        c.due("the mark is not changed by what is done", x.mark(1, true), true);
        c.due("seen", x.count(10), 1);
        x = three();
        x.mark(0, false);
        x.see(2, 10, true);
        c.due("ben", x.who(), 2);
        x.mark(1, false);
        x.mark(0, true);
        x.see(0, 30, false);
        c.due("ann", x.who(), 1);
        x.mark(1, true);
        c.due("ben again", x.who(), 2);
    }

    private void calls512() {
        c.sentence("An object is used for at most 512 calls after it has been made");
        LastCook x = new LastCook();
        Check.supper(x, "guest a plain off1pace1cooks9;tastes99;");
        Check.minutes(x, 506);
        c.due("call 510: the night", x.count(3), 506);
        c.due("call 511: tasted", x.count(7), 506 * 99);
        c.due("call 512: how often he has cooked", x.guest(0, 7), 506);
        x = new LastCook();
        Check.minutes(x, 511);
        c.due("call 512: the minute", x.count(4), 511);
        x = new LastCook();
        for (int i = 0; i < 511; i++) {
            x.mark(i % 4, i % 8 > 3);
        }
        c.due("call 512: a mark", x.mark(3, true), true);
    }

    private void count() {
        c.sentence("12: signs on the TAPE. -1000 for another what.");
        LastCook x = after(THREE + "snow 1 2 3;bend 7;hour 8;", 4);
        Check.night(x, "minute;minute;");
        x.see(0, 0, true);
        Check.tell(x, "a b c d");
        int[] due = {3, 7, 8, 0, 4, 2, 5, 0, 0, 2, 1, 4, 7};
        for (int what = 0; what < due.length; what++) {
            c.due("count(" + what + ")", x.count(what), due[what]);
        }
        for (int what : new int[] {Integer.MIN_VALUE, -2, -1, 13, 14, Integer.MAX_VALUE}) {
            c.due("count(" + what + ")", x.count(what), -1000);
        }
    }
}
