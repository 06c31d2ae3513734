/** Each sentence that bounds the lines of a supper and their faults: at the bound, one below it, one above it. */
public final class SupperBoundsTest {
    private static final int NONE = LastCook.NONE;
    private static final String[] KINDS = {"plain", "doctor", "shy", "great"};
    private static final String ONE = Check.guest("a", "plain", 1, 1, 1);

    private final Check c;

    private SupperBoundsTest(String[] args) {
        c = new Check(args);
    }

    public static void main(String[] args) {
        SupperBoundsTest t = new SupperBoundsTest(args);
        t.atFirst();
        t.anyNumber();
        t.guestLine();
        t.sixGuests();
        t.kinds();
        t.off();
        t.pace();
        t.cooks();
        t.bend();
        t.hour();
        t.snowOfAMinute();
        t.snowAgainAndAgain();
        t.onceEach();
        t.names();
        t.noTwoAlike();
        t.theEnd();
        t.theFirstFromTheLeft();
        t.theLeast();
        t.kindOne();
        t.kindThree();
        t.kindFour();
        t.kindFive();
        t.allAnew();
        t.allStays();
        t.c.end();
    }

    private int fault(String text) {
        return Check.supper(new LastCook(), text);
    }

    private static String guests(int guests) {
        StringBuilder all = new StringBuilder();
        for (int i = 0; i < guests; i++) {
            all.append(Check.guest("g" + (char) ('a' + i), KINDS[i % 4], 10 + i, 1 + i, i));
        }
        return all.toString();
    }

    private void atFirst() {
        c.sentence("At first: nobody.");
        LastCook x = new LastCook();
        int[] due = {0, 10, 30, 0, 0, 0, 0, 0, 0, 0, 0, 0, 0};
        for (int what = 0; what < due.length; what++) {
            c.due("count(" + what + ")", x.count(what), due[what]);
        }
        c.due("no guest 0", x.guest(0, 0), -2);
        c.due("no wheel", x.wheel(0, 1), NONE);
        c.due("no run", x.run(0, 1), NONE);
        c.due("no hire", x.hire(0, 1), false);
        c.due("nothing to undo", x.undo(), false);
        c.due("a minute all the same", x.minute(), NONE);
        c.due("minute 1", x.count(4), 1);
        c.due("never eaten", x.when(), NONE);
        c.due("no cook", x.cook(), NONE);
        c.due("none comes", x.order(0), NONE);
        c.due("no place", x.later(0, 0), NONE);
        c.due("no nights", x.nights(1), NONE);
        c.due("no delay", x.delay(0), NONE);
        c.due("no spare", x.spare(0), NONE);
        c.due("no best", x.best(), NONE);
        c.due("no excuse", x.excuse(0), NONE);
        c.due("none meet", x.meets(0, 1), NONE);
        c.due("none near", x.near(300), 0);
        c.due("none with", x.with(0), NONE);
        c.due("the boy sees none", x.boy(60), 0);
        c.due("none held", x.held(), 0);
        c.due("fair", x.fair(), 0);
        c.due("it was nobody", x.who(), 0);
        c.due("nothing to ask", x.ask(), NONE);
        c.due("no chance", x.chance(0, 1, 0), NONE);
        c.due("years of nobody", x.years(0, 99, 0) + x.years(0, 99, 1) + x.years(0, 99, 2), 0);
        c.due("no line", x.judged(0) + x.judged(1) + x.judged(2), -2);
        c.due("seen can be", x.see(0, 0, true), true);
        c.due("a name of no guest", Check.night(x, "wheel a 1;"), 2 + 16 * 6);
        c.due("a night of minutes", Check.night(x, "minute;minute;"), 0);
        c.due("judged", x.judged(0) + x.judged(1) + x.judged(2), -2);
    }

    private void anyNumber() {
        c.sentence("SUPPER: any number of guest NAME KIND");
        c.due("none", fault(""), 0);
        c.due("one", fault("bend 5;"), 0);
        c.due("ten", fault(guests(6) + "bend 5;hour 6;snow 7;tastes 8;"), 0);
        c.due("in another order", fault("tastes 8;" + guests(3) + "snow 7;bend 5;" + Check.guest("z", "shy", 1, 1, 1) + "hour 6;"), 0);
        c.due("no line without words", fault("bend 5;;"), 1 + 16 * 7);
    }

    private void guestLine() {
        c.sentence("guest NAME KIND off N pace N cooks N ;");
        String[] tokens = {"guest", "ann", "plain", "off", "5", "pace", "6", "cooks", "7", ";"};
        StringBuilder told = new StringBuilder();
        for (int i = 0; i < tokens.length; i++) {
            c.due("it ends ahead of " + tokens[i], fault(told.toString()), i == 0 ? 0 : 1 + 16 * told.length());
            c.due("? in place of " + tokens[i], fault(told + "?"), 1 + 16 * told.length());
            c.due("( in place of " + tokens[i], fault(told + "("), 1 + 16 * told.length());
            told.append(tokens[i]).append(' ');
        }
        c.due("all of them", fault(told.toString()), 0);
    }

    private void sixGuests() {
        c.sentence("guest: 6 at most, numbered as told");
        for (int n = 0; n <= 6; n++) {
            LastCook x = new LastCook();
            c.due(n + " guests", Check.supper(x, guests(n)), 0);
            c.due(n + " there are", x.count(0), n);
            for (int g = 0; g <= 6; g++) {
                c.due("yards of " + g + " of " + n, x.guest(g, 1), g < n ? 10 + g : -2);
                c.due("pace of " + g + " of " + n, x.guest(g, 2), g < n ? 1 + g : -2);
                c.due("cooks " + g + " of " + n, x.guest(g, 3), g < n ? g : -2);
            }
        }
        c.due("seven", fault(guests(7)), 5 + 16 * guests(6).length());
    }

    private void kinds() {
        c.sentence("KIND: plain, doctor, shy, great");
        for (int kind = 0; kind < KINDS.length; kind++) {
            LastCook x = Check.at(Check.guest("a", KINDS[kind], 1, 1, 1));
            c.due(KINDS[kind], x.guest(0, 0), kind);
        }
        for (String word : new String[] {"kind", "plains", "a", "off", "minute", "not", "guest", "skill", "5", "(", ";"}) {
            c.due(word, fault("guest a " + word + " off 1 pace 1 cooks 1;"), 1 + 16 * 8);
        }
    }

    /** Numbers about two bounds: those outside are the fault 4 at their place, those within are taken. */
    private void bounds(String ahead, String behind, int least, int most, int guest, int what) {
        int[] tried = {0, least - 1, least, least + 1, (least + most) / 2, most - 1, most, most + 1, most * 10, 9999};
        for (int n : tried) {
            if (n < 0) {
                continue;
            }
            LastCook x = new LastCook();
            boolean within = n >= least && n <= most;
            c.due(ahead + n, Check.supper(x, ahead + n + behind), within ? 0 : 4 + 16 * ahead.length());
            int got = guest >= 0 ? x.guest(guest, what) : x.count(what);
            int otherwise = guest >= 0 ? -2 : new LastCook().count(what);
            c.due(ahead + n + " is taken", got, within ? n : otherwise);
        }
        c.due(ahead + "-1", fault(ahead + "-1" + behind), 1 + 16 * ahead.length());
        c.due(ahead + "a word", fault(ahead + "ten" + behind), 1 + 16 * ahead.length());
        c.due(ahead + "nothing", fault(ahead + behind.strip()), 1 + 16 * ahead.length());
    }

    private void off() {
        c.sentence("off 1 to 300 yards");
        bounds("guest a plain off ", " pace 1 cooks 1;", 1, 300, 0, 1);
    }

    private void pace() {
        c.sentence("pace 1 to 30 yards a minute");
        bounds("guest a plain off 300 pace ", " cooks 1;", 1, 30, 0, 2);
        bounds(ONE + "guest b great off 1 pace ", " cooks 1;", 1, 30, 1, 2);
    }

    private void cooks() {
        c.sentence("cooks 0 to 20");
        bounds("guest a plain off 300 pace 30 cooks ", ";", 0, 20, 0, 3);
    }

    private void bend() {
        c.sentence("bend 1 to 50 yards from the step (10)");
        bounds("bend ", ";", 1, 50, -1, 1);
        c.due("10 if none is told", Check.at("hour 9;").count(1), 10);
        LastCook x = Check.at("bend 50;");
        Check.supper(x, "hour 1;");
        c.due("10 again", x.count(1), 10);
        Check.supper(x, "hour 1;");
        c.due("10 once more", x.count(1), 10);
    }

    private void hour() {
        c.sentence("hour 1 to 200 minutes (30)");
        bounds("hour ", ";", 1, 200, -1, 2);
        c.due("30 if none is told", Check.at("bend 9;").count(2), 30);
        LastCook x = Check.at("hour 200;");
        Check.supper(x, "bend 1;");
        c.due("30 again", x.count(2), 30);
        Check.supper(x, "bend 1;");
        c.due("30 once more", x.count(2), 30);
    }

    private void snowOfAMinute() {
        c.sentence("snow 0 to 9 of one minute of a night behind another");
        bounds("snow ", ";", 0, 9, -1, 5);
        for (int n = 0; n <= 11; n++) {
            c.due("the second is " + n, fault("snow 5 " + n + ";"), n <= 9 ? 0 : 4 + 16 * 7);
            c.due("the twelfth is " + n, fault("snow 1 1 1 1 1 1 1 1 1 1 1 " + n + ";"), n <= 9 ? 0 : 4 + 16 * 27);
        }
        LastCook x = Check.at(Check.guest("a", "plain", 300, 1, 1) + "snow 3 0 9;");
        int[] due = {3, 0, 9, 3};
        for (int minute = 0; minute < due.length; minute++) {
            c.due("minute " + minute, x.count(5), due[minute]);
            x.minute();
        }
    }

    private void snowAgainAndAgain() {
        c.sentence("1 to 12, again and again (0)");
        c.due("no number", fault("snow ;"), 1 + 16 * 5);
        c.due("none at all", Check.at(ONE).count(5), 0);
        for (int numbers = 1; numbers <= 12; numbers++) {
            StringBuilder told = new StringBuilder("snow");
            for (int i = 0; i < numbers; i++) {
                told.append(' ').append((i * 7 + 3) % 10);
            }
            LastCook x = Check.at(Check.guest("a", "plain", 300, 1, 1) + told + ";");
            for (int minute = 0; minute < 27; minute++) {
                c.due(told + ", minute " + minute, x.count(5), (minute % numbers * 7 + 3) % 10);
                x.minute();
            }
        }
        c.due("thirteen", fault("snow 1 1 1 1 1 1 1 1 1 1 1 1 1;"), 5 + 16 * 29);
        LastCook x = Check.at(Check.guest("a", "plain", 3, 1, 1) + "snow 1 2 3 4 5;");
        Check.minutes(x, 3);
        c.due("the next night begins with the first", x.count(5), 1);
        x.minute();
        c.due("and goes on", x.count(5), 2);
    }

    private void onceEach() {
        c.sentence("bend, hour, snow, tastes: once each");
        String[] lines = {"bend 5;", "hour 5;", "snow 5;", "tastes 5;"};
        for (String line : lines) {
            c.due(line + " once", fault(line), 0);
            c.due(line + " twice", fault(line + line), 3 + 16 * line.length());
            c.due(line + " behind others", fault(line + guests(2) + line), 3 + 16 * (line.length() + guests(2).length()));
            for (String other : lines) {
                c.due(line + other, fault(line + other), line.equals(other) ? 3 + 16 * line.length() : 0);
            }
            LastCook x = Check.at(line);
            c.due(line + " in the next supper", Check.supper(x, line), 0);
            Check.supper(x, line + "?");
            c.due(line + " behind a fault", Check.supper(x, line), 0);
        }
        c.due("snow of 0 is told, too", fault("snow 0;snow 0;"), 3 + 16 * 7);
        c.due("bend as it is without", fault("bend 10;bend 10;"), 3 + 16 * 8);
    }

    private void names() {
        c.sentence("A NAME is another WORD than guest, off, pace, cooks, bend, hour, snow, tastes, wheel, run, hire, minute, "
            + "the KINDS, not, and, or");
        String[] reserved = {"guest", "off", "pace", "cooks", "bend", "hour", "snow", "tastes", "wheel", "run", "hire", "minute", "plain",
            "doctor", "shy", "great", "not", "and", "or"};
        for (String word : reserved) {
            c.due(word, fault("guest " + word + " plain off 1 pace 1 cooks 1;"), 1 + 16 * 6);
            c.due(word + "s", fault("guest " + word + "s plain off 1 pace 1 cooks 1;"), 0);
            c.due(word + " but for its last", fault("guest " + word.substring(0, word.length() - 1) + " plain off 1 pace 1 cooks 1;"), 0);
            c.due("wheel " + word, Check.night(Check.at(ONE), "wheel " + word + " 1;"), 1 + 16 * 6);
        }
        for (String word : new String[] {"skill", "late", "guests", "night", "a", "z", "nobody"}) {
            c.due(word, fault("guest " + word + " plain off 1 pace 1 cooks 1;"), 0);
        }
        c.due("a number", fault("guest 1 plain off 1 pace 1 cooks 1;"), 1 + 16 * 6);
        c.due("a sign", fault("guest ; plain off 1 pace 1 cooks 1;"), 1 + 16 * 6);
    }

    private void noTwoAlike() {
        c.sentence("no two are alike");
        String six = guests(6);
        for (int i = 0; i < 5; i++) {
            String again = guests(5) + "guest g" + (char) ('a' + i);
            c.due("g" + (char) ('a' + i) + " a second time", fault(again + " plain"), 3 + 16 * (again.length() - 2));
        }
        c.due("six others", fault(six), 0);
        LastCook x = Check.at(ONE);
        c.due("of another supper", Check.supper(x, ONE), 0);
        c.due("a fault forgets it", Check.supper(x, Check.guest("b", "plain", 1, 1, 1) + "?"), 1 + 16 * ONE.length());
        c.due("b is new", Check.supper(x, Check.guest("b", "plain", 1, 1, 1)), 0);
    }

    private void theEnd() {
        c.sentence("the end being one at the text's length");
        c.due("bend", fault("bend"), 1 + 16 * 4);
        c.due("bend and blanks", fault("bend   "), 1 + 16 * 7);
        c.due("bend 5", fault("bend 5"), 1 + 16 * 6);
        c.due("bend 5 and a new line", fault("bend 5\n"), 1 + 16 * 7);
        c.due("snow 1", fault("snow 1"), 1 + 16 * 6);
        c.due("tastes", fault("tastes"), 1 + 16 * 6);
        c.due("tastes (1", fault("tastes (1"), 1 + 16 * 9);
        c.due("not", fault("tastes not"), 1 + 16 * 10);
        LastCook x = Check.at(ONE);
        c.due("wheel", Check.night(x, "wheel"), 1 + 16 * 5);
        c.due("hire a", Check.night(x, "hire a \n"), 1 + 16 * 8);
    }

    private void theFirstFromTheLeft() {
        c.sentence("of the first token from the left that is wrong the least");
        c.due("4 ahead of 1", fault("bend 0;?"), 4 + 16 * 5);
        c.due("1 ahead of 4", fault("bend ? 0;"), 1 + 16 * 5);
        c.due("3 ahead of 4", fault("bend 5;bend 0;"), 3 + 16 * 7);
        c.due("4 of off ahead of 4 of pace", fault("guest a plain off 0 pace 0 cooks 99;"), 4 + 16 * 18);
        c.due("5 of the seventh ahead of its name", fault(guests(6) + "guest ga shy"), 5 + 16 * guests(6).length());
    }

    private void theLeast() {
        c.sentence("wrong the least: 1 it is none, or can't stand there");
        String twelve = "snow 0 0 0 0 0 0 0 0 0 0 0 0 ";
        c.due("a thirteenth", fault(twelve + "9;"), 5 + 16 * 29);
        c.due("a thirteenth that is not as told", fault(twelve + "10;"), 4 + 16 * 29);
        c.due("a thirteenth that is none", fault(twelve + "00000;"), 1 + 16 * 29);
        c.due("what can't stand there within 5 others", fault("tastes (((((bend"), 1 + 16 * 12);
        c.due("what can stand there within 5 others", fault("tastes (((((night"), 5 + 16 * 12);
    }

    private void kindOne() {
        c.sentence("1 it is none, or can't stand there");
        c.due("a word of a night", fault("minute;"), 1);
        c.due("a name", fault("ann;"), 1);
        c.due("a number", fault("5;"), 1);
        c.due("a fact", fault("skill;"), 1);
        c.due("bend without its end", fault("bend 5 hour 5;"), 1 + 16 * 7);
        c.due("pace ahead of off", fault("guest a plain pace 5 off 5 cooks 5;"), 1 + 16 * 14);
        c.due("a name in snow", fault("snow 1 a;"), 1 + 16 * 7);
    }

    private void kindThree() {
        c.sentence("3 a NAME told already");
        c.due("at the name", fault(ONE + "guest  a shy"), 3 + 16 * (ONE.length() + 7));
        c.due("a reserved one is 1", fault(ONE + "guest off shy"), 1 + 16 * (ONE.length() + 6));
        c.sentence("bend, hour, snow, tastes a second time");
        c.due("at the word", fault("bend 5; bend"), 3 + 16 * 8);
        c.due("hour", fault("hour 5; hour"), 3 + 16 * 8);
        c.due("snow", fault("snow 5; snow"), 3 + 16 * 8);
        c.due("tastes", fault("tastes 5; tastes"), 3 + 16 * 10);
    }

    private void kindFour() {
        c.sentence("4 a NUMBER that is not as told");
        c.due("bend", fault("bend 51"), 4 + 16 * 5);
        c.due("hour", fault("hour 0"), 4 + 16 * 5);
        c.due("snow", fault("snow 10"), 4 + 16 * 5);
        c.due("off", fault("guest a shy off 301"), 4 + 16 * 16);
        c.due("pace", fault("guest a shy off 1 pace 31"), 4 + 16 * 23);
        c.due("cooks", fault("guest a shy off 1 pace 1 cooks 21"), 4 + 16 * 31);
        c.due("any in tastes", fault("tastes 9999+0;"), 0);
    }

    private void kindFive() {
        c.sentence("5 one too many: the word guest of a seventh");
        int there = guests(6).length();
        c.due("alone", fault(guests(6) + "guest"), 5 + 16 * there);
        c.due("behind blanks", fault(guests(6) + "  guest x plain"), 5 + 16 * (there + 2));
        c.due("another line", fault(guests(6) + "bend 4;"), 0);
        c.due("a sixth", fault(guests(5) + "guest"), 1 + 16 * (guests(5).length() + 5));
        c.sentence("a thirteenth NUMBER of snow");
        c.due("at the number", fault("snow 1 2 3 4 5 6 7 8 9 0 1 2   3;"), 5 + 16 * 31);
        c.due("a twelfth", fault("snow 1 2 3 4 5 6 7 8 9 0 1 2   ;"), 0);
        c.due("a fourteenth is not looked at", fault("snow 1 2 3 4 5 6 7 8 9 0 1 2 3 99;"), 5 + 16 * 29);
    }

    private void allAnew() {
        c.sentence("Without a FAULT a SUPPER is the SUPPER from then on: night 0, minute 0, all on the road as far off as told, "
            + "nobody hired, stuck, has cooked, nothing tasted, no NIGHT, nothing SEEN, nothing can be undone, no MARK is there.");
        String told = Check.guest("a", "plain", 4, 2, 5) + Check.guest("b", "plain", 60, 3, 6);
        LastCook x = Check.at(told);
        String fresh = Check.picture(x);
        x.wheel(0, 19);
        Check.minutes(x, 41);
        c.due("each has cooked", x.guest(0, 7) * 10 + x.guest(1, 7), 11);
        Check.minutes(x, 1);
        c.due("a wheel", x.wheel(0, 4), 4);
        c.due("a hire", x.hire(0, 1), true);
        c.due("a run", x.run(1, 9), 12);
        Check.night(x, "minute;wheel a 3;");
        x.see(1, 50, false);
        for (int mark = 0; mark < 4; mark++) {
            x.mark(mark, false);
        }
        Check.minutes(x, 2);
        c.due("night, tasted, undone, lines, seen ahead", x.count(3) * 10000 + x.count(7) * 1000 + x.count(11) * 100
            + x.count(9) * 10 + x.count(10), 20000 + 11000 + 1600 + 20 + 1);
        c.due("told again", Check.supper(x, told), 0);
        c.alike("all is as at first", Check.picture(x), fresh);
        c.due("no undo", x.undo(), false);
        for (int mark = 0; mark < 4; mark++) {
            c.due("no mark " + mark, x.mark(mark, true), false);
        }
        c.due("nothing told", x.supper(), 0);
        c.alike("nobody", Check.picture(x), Check.picture(new LastCook()));
    }

    private void allStays() {
        c.sentence("0, or its FAULT (all stays then)");
        LastCook x = Check.at(Check.guest("a", "plain", 4, 2, 5) + Check.guest("b", "shy", 6, 3, 6) + "bend 3;hour 4;snow 1 2;"
            + "tastes skill+late;");
        Check.minutes(x, 7);
        c.due("eaten once, two minutes late", x.count(3) * 100 + x.count(7), 108);
        c.due("a wheel", x.wheel(0, 4), 4);
        c.due("a hire", x.hire(0, 1), true);
        Check.night(x, "minute;wheel a 3;");
        x.see(1, 50, false);
        x.mark(2, false);
        x.minute();
        String ahead = Check.picture(x);
        String[] wrong = {"?", "guest", guests(6) + "guest", "bend 9;hour 9;snow 9;tastes 9;bend", "bend 0;", "snow 10;", "tastes 1 1;",
            Check.guest("a", "great", 9, 9, 9) + "guest a"};
        for (String text : wrong) {
            c.due(text + " is a fault", fault(text) > 0, true);
            Check.supper(x, text);
            c.alike(text, Check.picture(x), ahead);
        }
        for (String text : new String[] {"?", "wheel a 0;", "wheel c 1;", "hire a a;", "minute;minute;run b 10;", "bend 5;"}) {
            c.due(text + " is one of a night", Check.night(x, text) > 0, true);
            c.alike(text, Check.picture(x), ahead);
        }
        c.due("no mark is laid by it", x.mark(1, true), false);
        c.due("stuck behind the minute", x.guest(0, 5), 3);
        c.due("it can be undone", x.undo(), true);
        c.due("stuck as ahead", x.guest(0, 5), 4);
        Check.minutes(x, 3);
        c.due("the mark stays", x.mark(2, true), true);
        c.due("stuck as then", x.guest(0, 5), 4);
        c.due("lines, seen", x.count(9) * 10 + x.count(10), 21);
    }
}
