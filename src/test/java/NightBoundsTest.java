/** Each sentence that bounds the lines of a night and its judging: at the bound, one below it, one above it. */
public final class NightBoundsTest {
    private static final int NONE = LastCook.NONE;
    /** ann is in by minute 4, ben by 3, cat by 6. */
    private static final String THREE = Check.guest("ann", "plain", 40, 10, 3) + Check.guest("ben", "plain", 30, 10, 7)
        + Check.guest("cat", "plain", 30, 5, 12);

    private final Check c;

    private NightBoundsTest(String[] args) {
        c = new Check(args);
    }

    public static void main(String[] args) {
        NightBoundsTest t = new NightBoundsTest(args);
        t.anyNumber();
        t.lines();
        t.wheels();
        t.runs();
        t.anotherOne();
        t.fortyLines();
        t.noGuestTold();
        t.secondIsFirst();
        t.firstWordOf41st();
        t.theNight();
        t.likewise();
        t.fromTheBeginning();
        t.leftOut();
        t.minuteAlwaysCan();
        t.firstThatCant();
        t.firstEaten();
        t.together();
        t.whats();
        t.c.end();
    }

    private void fault(String text, int kind, int place) {
        c.due(text, Check.night(Check.at(THREE), text), kind + 16 * place);
    }

    private LastCook told(String night) {
        LastCook x = Check.at(THREE);
        c.due(night, Check.night(x, night), 0);
        return x;
    }

    private void anyNumber() {
        c.sentence("NIGHT: any number of wheel NAME N ; run NAME N ; hire NAME NAME ; minute ;");
        LastCook x = Check.at(THREE);
        c.due("none", x.night(), 0);
        c.due("no line", x.count(9), 0);
        c.due("blanks alone", Check.night(x, " \n "), 0);
        c.due("one", Check.night(x, "minute;"), 0);
        c.due("one line", x.count(9), 1);
        c.due("each kind", Check.night(x, "wheel ann 1;run ann 1;hire ann ben;minute;"), 0);
        c.due("four lines", x.count(9), 4);
        c.due("none again", x.night(), 0);
        c.due("no line again", x.count(9), 0);
        fault(";", 1, 0);
        fault("minute;;", 1, 7);
    }

    private void lines() {
        c.sentence("NIGHT: any number of wheel NAME N ;");
        String[][] lines = {{"wheel", "ann", "5", ";"}, {"run", "ben", "5", ";"}, {"hire", "ann", "cat", ";"}, {"minute", ";"}};
        for (String[] line : lines) {
            StringBuilder text = new StringBuilder();
            for (int i = 0; i < line.length; i++) {
                if (i > 0) {
                    fault(text.toString(), 1, text.length());
                }
                fault(text + "?", 1, text.length());
                fault(text + "=", 1, text.length());
                text.append(line[i]).append(' ');
            }
            fault(text.toString(), 0, 0);
        }
        for (String word : new String[] {"guest", "bend", "hour", "snow", "tastes", "ann", "5", "minutes"}) {
            fault(word + " ann 1;", 1, 0);
        }
    }

    private void bounds(String ahead, int most) {
        int[] tried = {0, 1, 2, most - 1, most, most + 1, 9999};
        for (int n : tried) {
            fault(ahead + n + ";", n >= 1 && n <= most ? 0 : 4, n >= 1 && n <= most ? 0 : ahead.length());
        }
        fault(ahead + "00001;", 1, ahead.length());
        fault(ahead + "-1;", 1, ahead.length());
        fault(ahead + ";", 1, ahead.length());
        fault(ahead + "ben;", 1, ahead.length());
        fault(ahead + "1 1;", 1, ahead.length() + 2);
    }

    private void wheels() {
        c.sentence("a GUEST by 1 to 60");
        bounds("wheel ann ", 60);
        LastCook x = told("wheel cat 60;" + Check.times(39, "minute;"));
        c.due("stuck for all of them", x.judged(1), NONE);
        x = told("wheel cat 1;" + Check.times(7, "minute;"));
        c.due("a minute later", x.judged(1), 7);
    }

    private void runs() {
        c.sentence("a GUEST by 1 to 9");
        bounds("run cat ", 9);
        LastCook x = told("run cat 1;" + Check.times(6, "minute;"));
        c.due("6 yards a minute", x.judged(1), 5);
        x = told("run cat 9;" + Check.times(6, "minute;"));
        c.due("14 yards a minute: ann is last", x.judged(1), 4);
        c.due("by ann", x.judged(2), 3);
    }

    private void anotherOne() {
        c.sentence("a GUEST another one), 40 lines at most");
        String[] names = {"ann", "ben", "cat"};
        for (String first : names) {
            for (String second : names) {
                boolean same = first.equals(second);
                fault("hire " + first + " " + second + ";", same ? 3 : 0, same ? 9 : 0);
            }
        }
    }

    private void fortyLines() {
        c.sentence("40 lines at most");
        for (int lines = 38; lines <= 40; lines++) {
            LastCook x = told(Check.times(lines, "minute;"));
            c.due(lines + " there are", x.count(9), lines);
            c.due("of the six in each, tasted", x.judged(2), 12 * (lines / 6));
        }
        fault(Check.times(41, "minute;"), 5, 280);
        LastCook x = told(Check.times(40, "minute;"));
        c.due("41 are a fault", Check.night(x, Check.times(41, "minute;")), 5 + 16 * 280);
        c.due("the 40 stay", x.count(9), 40);
        c.due("40 of others", Check.night(x, Check.times(20, "wheel cat 60;hire ann ben;")), 0);
        c.due("40", x.count(9), 40);
        c.due("the second hire can't be", x.judged(0), 3);
    }

    private void noGuestTold() {
        c.sentence("2 a NAME of no GUEST told");
        fault("wheel dan 1;", 2, 6);
        fault("run dan 1;", 2, 4);
        fault("hire dan ann;", 2, 5);
        fault("hire ann dan;", 2, 9);
        fault("wheel an 1;", 2, 6);
        fault("wheel anna 1;", 2, 6);
        fault("wheel skill 1;", 2, 6);
        fault("wheel abcdefgh 1;", 2, 6);
        fault("wheel abcdefghi 1;", 1, 6);
        fault("wheel off 1;", 1, 6);
        LastCook x = Check.at(THREE);
        Check.supper(x, Check.guest("dan", "plain", 1, 1, 1));
        c.due("of the supper ahead", Check.night(x, "wheel ann 1;"), 2 + 16 * 6);
        c.due("of this one", Check.night(x, "wheel dan 1;"), 0);
        Check.supper(x, Check.guest("eve", "plain", 1, 1, 1) + "?");
        c.due("of one with a fault", Check.night(x, "wheel eve 1;"), 2 + 16 * 6);
        c.due("dan yet", Check.night(x, "wheel dan 1;"), 0);
    }

    private void secondIsFirst() {
        c.sentence("the second one of hire that is the first one");
        fault("hire ann ann;", 3, 9);
        fault("hire cat  cat", 3, 10);
        fault("hire dan dan;", 2, 5);
        fault("hire ann ben;hire ben ben;", 3, 22);
    }

    private void firstWordOf41st() {
        c.sentence("the first word of a 41st line of a NIGHT");
        String forty = Check.times(40, "minute;");
        for (String word : new String[] {"wheel", "run", "hire", "minute"}) {
            fault(forty + word, 5, 280);
            fault(forty + "  " + word + " ann 0;", 5, 282);
        }
        for (String other : new String[] {"bend", "ann", "5", ";", "?"}) {
            fault(forty + other, 1, 280);
        }
        fault(forty + " \n", 0, 0);
        fault(Check.times(39, "minute;") + "minute", 1, 279);
    }

    private void theNight() {
        c.sentence("A NIGHT is the NIGHT.");
        LastCook x = told("minute;");
        x.minute();
        c.due("nothing is done by it", x.count(4) * 10 + x.count(11), 11);
        c.due("another one", Check.night(x, "wheel ann 1;run ben 1;"), 0);
        c.due("in its place", x.count(9), 2);
        c.due("what was done stays", x.count(4) * 10 + x.count(11), 11);
    }

    private void likewise() {
        c.sentence("The TAPE is read as a NIGHT, likewise.");
        LastCook x = told("minute;wheel ann 3;");
        c.due("a fault", Check.night(x, "minute;minute;minute;run ann 0;"), 4 + 16 * 29);
        c.due("the night stays", x.count(9), 2);
        c.due("the tape is taken", x.count(12), 0);
        c.due("none of it is kept", x.judged(0), NONE);
    }

    private void fromTheBeginning() {
        c.sentence("JUDGED: the NIGHT from the beginning");
        LastCook x = told("wheel ben 1;" + Check.times(6, "minute;"));
        int[] due = {NONE, 6, 12};
        for (int minute = 0; minute < 8; minute++) {
            for (int what = 0; what < 3; what++) {
                c.due("judged(" + what + ") in minute " + minute, x.judged(what), due[what]);
            }
            x.minute();
        }
        x.wheel(2, 60);
        x.run(1, 9);
        x.hire(0, 1);
        String ahead = Check.picture(x);
        c.due("whatever was done", x.judged(1), 6);
        c.alike("all is as ahead", Check.picture(x), ahead);
        x = Check.at(Check.guest("a", "plain", 1, 1, 1) + "tastes night+1;");
        Check.night(x, "minute;");
        Check.minutes(x, 5);
        c.due("from night 0", x.judged(2), 1);
    }

    private void leftOut() {
        c.sentence("(a line that can't be is left out; a minute always can)");
        LastCook x = told("hire ann ben;hire cat ben;" + Check.times(5, "minute;"));
        c.due("the second hire", x.judged(0), 1);
        c.due("cat is last all the same: not eaten by five", x.judged(1), NONE);
        x = told("hire ann ben;hire cat ben;" + Check.times(6, "minute;"));
        c.due("eaten by the sixth", x.judged(1), 7);
        c.due("by cat", x.judged(2), 12);
        x = told("minute;minute;minute;wheel ben 60;minute;minute;minute;");
        c.due("ben is in", x.judged(0), 3);
        c.due("eaten", x.judged(1), 6);
    }

    private void minuteAlwaysCan() {
        c.sentence("a minute always can");
        LastCook x = told(Check.times(40, "minute;"));
        c.due("none that can't", x.judged(0), NONE);
        x = new LastCook();
        Check.night(x, Check.times(40, "minute;"));
        c.due("of nobody, too", x.judged(0), NONE);
        c.due("never eaten", x.judged(1), NONE);
        x = Check.at(Check.guest("a", "shy", 5, 1, 1) + Check.guest("b", "shy", 5, 1, 1));
        Check.night(x, Check.times(40, "minute;"));
        c.due("of a couple at the bend, too", x.judged(0), NONE);
    }

    private void firstThatCant() {
        c.sentence("the first line (from 0) that can't be");
        c.due("none", told("minute;").judged(0), NONE);
        c.due("no lines", told("").judged(0), NONE);
        String in = "minute;minute;minute;";
        for (String line : new String[] {"wheel ben 1;", "run ben 1;", "hire ben ann;", "hire ann ben;"}) {
            c.due(line + " when ben is in", told(in + line).judged(0), 3);
            c.due(line + " a minute ahead", told("minute;minute;" + line).judged(0), NONE);
            c.due(line + " twice", told(in + line + line).judged(0), 3);
        }
        c.due("in the next night he is on the road", told(in + in + "wheel ben 1;").judged(0), NONE);
        c.due("the 40th", told(Check.times(3, "minute;") + Check.times(36, "wheel ann 1;") + "run ben 1;").judged(0), 39);
        c.due("a wheel of over 60 together can be", told("wheel ann 60;wheel ann 60;").judged(0), NONE);
        c.due("running of over 40 together can be", told(Check.times(9, "run ann 9;")).judged(0), NONE);
        c.due("hiring in a ring can be", told("hire ann ben;hire ben ann;").judged(0), NONE);
        c.due("hired by another one ahead", told("hire ann cat;hire ben cat;").judged(0), 1);
        c.due("by the same one", told("hire ann cat;hire ann cat;").judged(0), 1);
        c.due("in the next night he is hired by nobody", told("wheel cat 1;hire ann cat;" + Check.times(7, "minute;")
            + "hire ben cat;").judged(0), NONE);
    }

    private void firstEaten() {
        c.sentence("the first one by which it is EATEN");
        c.due("five minutes", told(Check.times(5, "minute;")).judged(1), NONE);
        c.due("six", told(Check.times(6, "minute;")).judged(1), 5);
        c.due("twelve", told(Check.times(12, "minute;")).judged(1), 5);
        c.due("lines ahead count", told("run ann 1;run ben 1;" + Check.times(6, "minute;")).judged(1), 7);
        c.due("the 40th", told(Check.times(34, "run ann 1;") + Check.times(6, "minute;")).judged(1), 39);
        LastCook x = Check.at(Check.guest("a", "plain", 1, 1, 1));
        Check.night(x, "minute;");
        c.due("line 0", x.judged(1), 0);
    }

    private void together() {
        c.sentence("what was tasted at last, together");
        c.due("no lines", told("").judged(2), 0);
        c.due("five minutes", told(Check.times(5, "minute;")).judged(2), 0);
        c.due("six", told(Check.times(6, "minute;")).judged(2), 12);
        c.due("eleven", told(Check.times(11, "minute;")).judged(2), 12);
        c.due("twelve", told(Check.times(12, "minute;")).judged(2), 24);
        LastCook x = Check.at(Check.guest("a", "plain", 1, 1, 1) + "tastes 0-9999;");
        Check.night(x, Check.times(40, "minute;"));
        c.due("40 nights of -99", x.judged(2), -99 * 40);
    }

    private void whats() {
        c.sentence("JUDGED, what 0, 1: lines (NONE: none), 2: what was tasted; -1000: others.");
        LastCook x = told("hire ann ben;hire ann ben;" + Check.times(6, "minute;"));
        int[] due = {-1000, 1, 7, 12, -1000};
        for (int what = -1; what <= 3; what++) {
            c.due("judged(" + what + ")", x.judged(what), due[what + 1]);
        }
        c.due("judged(MIN)", x.judged(Integer.MIN_VALUE), -1000);
        c.due("judged(MAX)", x.judged(Integer.MAX_VALUE), -1000);
    }
}
