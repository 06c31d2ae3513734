/** Each sentence that bounds the law of how it tastes: at the bound, one below it, one above it. */
public final class LawBoundsTest {
    private final Check c;

    private LawBoundsTest(String[] args) {
        c = new Check(args);
    }

    public static void main(String[] args) {
        LawBoundsTest t = new LawBoundsTest(args);
        t.fromTheLeft();
        t.oneComparison();
        t.sums();
        t.products();
        t.parts();
        t.withinFive();
        t.mostWaiting();
        t.faultWithinFive();
        t.skill();
        t.late();
        t.guests();
        t.night();
        t.oneOrZero();
        t.notZeroIsSo();
        t.intsWrap();
        t.withoutTastes();
        t.ninetyNine();
        t.longLaws();
        t.c.end();
    }

    private int fault(String law) {
        return Check.supper(new LastCook(), "tastes " + law + ";");
    }

    /** A fault of a law at a place of the law itself. */
    private void faulty(String law, int kind, int place) {
        c.due(law, fault(law), kind + 16 * (7 + place));
    }

    private void right(String law) {
        c.due(law, fault(law), 0);
    }

    /** One guest who cooks 7, in by minute 12, the hour being 10. */
    private int taste(String law) {
        LastCook x = Check.at("guest a plain off 12 pace 1 cooks 7;hour 10;tastes " + law + ";");
        Check.minutes(x, 12);
        return x.count(7);
    }

    private void tastes(String law, int due) {
        c.due(law, taste(law), due);
    }

    private void fromTheLeft() {
        c.sentence("E: TEST { and TEST or or TEST }, from the left");
        tastes("1 or 0 and 0", 0);
        tastes("1 or (0 and 0)", 1);
        tastes("0 and 0 or 1", 1);
        tastes("0 and (0 or 1)", 0);
        tastes("1 and 1 and 0 or 1 and 1", 1);
        tastes("0 or 1 and 0 or 0", 0);
        right("1 and 1");
        right("1 or 1");
        faulty("and 1", 1, 0);
        faulty("or 1", 1, 0);
        faulty("1 and", 1, 5);
        faulty("1 or ", 1, 5);
        faulty("1 and or 1", 1, 6);
    }

    private void oneComparison() {
        c.sentence("TEST: SUM, or SUM < SUM, or SUM = SUM");
        tastes("1<2", 1);
        tastes("2<2", 0);
        tastes("3<2", 0);
        tastes("1=2", 0);
        tastes("2=2", 1);
        tastes("3=2", 0);
        faulty("1<2<3", 1, 3);
        faulty("1<2=3", 1, 3);
        faulty("1=2<3", 1, 3);
        faulty("1=2=3", 1, 3);
        faulty("1+1<2*2=3", 1, 7);
        tastes("1<2 and 2<3", 1);
        tastes("(1<2)<3", 1);
        tastes("3=(2=2)", 0);
        faulty("<1", 1, 0);
        faulty("1<", 1, 2);
    }

    private void sums() {
        c.sentence("SUM: PRODUCT { + or - PRODUCT }");
        tastes("9-3-2", 4);
        tastes("9-3+2", 8);
        tastes("9-(3+2)", 4);
        tastes("1+2<2+2", 1);
        tastes("0-5", -5);
        faulty("-5", 1, 0);
        faulty("+5", 1, 0);
        faulty("5+", 1, 2);
        faulty("5--5", 1, 2);
        faulty("5-+5", 1, 2);
    }

    private void products() {
        c.sentence("PRODUCT: PART { * PART }");
        tastes("2*3*4", 24);
        tastes("2+3*4", 14);
        tastes("2*3+4", 10);
        tastes("2*(3+4)", 14);
        tastes("9-2*3", 3);
        faulty("*2", 1, 0);
        faulty("2*", 1, 2);
        faulty("2**2", 1, 2);
        tastes("not 0*5", 5);
        tastes("5*not 0", 5);
    }

    private void parts() {
        c.sentence("PART: a NUMBER, a fact, not PART, ( E )");
        for (String part : new String[] {"0", "9999", "skill", "late", "guests", "night", "not 1", "(1)", "not(1)", "(not 1)"}) {
            right(part);
            faulty(part + " 1", 1, part.length() + 1);
            faulty(part + " skill", 1, part.length() + 1);
            faulty(part + " not 1", 1, part.length() + 1);
            faulty(part + "(", 1, part.length());
            faulty(part + ")", 1, part.length());
            faulty("(" + part, 1, part.length() + 1);
        }
        faulty("", 1, 0);
        faulty("()", 1, 1);
        faulty("not", 1, 3);
        faulty("not and", 1, 4);
        for (String word : new String[] {"cooks", "guest", "minute", "hour", "bend", "snow", "plain", "nobody", "skills", "nights"}) {
            faulty(word, 1, 0);
            faulty("1+" + word, 1, 2);
        }
    }

    private void withinFive() {
        c.sentence("no PART lies within 5 of not and ( )");
        right("1");
        right("(((1)))");
        right("((((1))))");
        faulty("(((((1)))))", 5, 5);
        right("not not not 1");
        right("not not not not 1");
        faulty("not not not not not 1", 5, 20);
        right("not(not(1))");
        right("(not (not skill))");
        faulty("(not (not(skill)))", 5, 10);
        faulty("not(not(not 1))", 5, 12);
        tastes("((((5))))", 5);
        tastes("not not not not 5", 1);
        right("((((1))))+((((2))))");
        faulty("((((1))))+(((((2)))))", 5, 15);
        right("((((1)+(2))*3)-not((4)))");
        right("not((1)) and not((2)) or not((3))");
        faulty("(((1+((2)))))", 5, 7);
        right("(((1+(2))))");
    }

    private void mostWaiting() {
        c.sentence("no PART lies within 5 of not and ( )");
        for (int skill = 0; skill <= 1; skill++) {
            // Each level turns 0 into 1 and 1 into 0 with one operator of each tightness waiting for what is inside.
            String law = "1 and 1<2-1*skill";
            for (int levels = 1; levels <= 5; levels++) {
                LastCook x = Check.at(Check.guest("a", "plain", 1, 1, skill) + "tastes " + law + ";");
                x.minute();
                c.due(law + " of " + skill, x.count(7), (skill + levels) % 2);
                law = "1 and 1<2-1*(" + law + ")";
            }
            c.due("one level more", fault(law), 5 + 16 * (7 + 5 * 13));
        }
    }

    private void faultWithinFive() {
        c.sentence("not, or a PART, within 5 others");
        for (String part : new String[] {"0", "9999", "skill", "late", "guests", "night", "not", "(", "not 1", "(1)"}) {
            faulty("(((((" + part, 5, 5);
            faulty("not not not not not " + part, 5, 20);
            faulty("((not(1)))+not(not((" + part, 5, 20);
        }
        for (String other : new String[] {")", ";", "and", "or", "<", "=", "+", "-", "*", "bend", "nobody", "12345", "?", ""}) {
            faulty("(((((" + other, 1, 5);
        }
        faulty("((((((1))))))", 5, 5);
        faulty("not not not not not not 1", 5, 20);
        faulty("((((not 1))))", 5, 8);
        right("(((not 1)))");
    }

    private void skill() {
        c.sentence("skill (of who cooks)");
        for (int cooks = 0; cooks <= 20; cooks += 10) {
            LastCook x = Check.at(Check.guest("a", "plain", 1, 1, 5) + Check.guest("b", "plain", 2, 1, cooks) + "tastes skill;");
            Check.minutes(x, 2);
            c.due("cooks " + cooks, x.count(7), cooks);
        }
        LastCook x = Check.at(Check.guest("a", "plain", 1, 1, 5) + Check.guest("b", "doctor", 2, 1, 9) + "tastes skill;");
        Check.minutes(x, 2);
        c.due("not of a doctor who is last", x.count(7), 5);
    }

    private void late() {
        c.sentence("late (MINUTES of this night, this one too, beyond the hour; 0 if there are none)");
        int[] hours = {1, 2, 9, 10, 11, 12, 200};
        for (int hour : hours) {
            LastCook x = Check.at(Check.guest("a", "plain", 10, 1, 5) + "hour " + hour + ";tastes late;");
            Check.minutes(x, 10);
            c.due("eaten in the tenth minute, hour " + hour, x.count(7), hour < 10 ? 10 - hour : 0);
        }
        LastCook x = Check.at(Check.guest("a", "plain", 2, 1, 5) + "hour 1;tastes late;");
        Check.minutes(x, 6);
        c.due("of this night alone, three nights", x.count(7), 3);
        x = Check.at(Check.guest("a", "plain", 31, 1, 5) + "tastes late;");
        Check.minutes(x, 31);
        c.due("beyond 30 if none is told", x.count(7), 1);
        x = Check.at(Check.guest("a", "plain", 30, 1, 5) + "tastes late;");
        Check.minutes(x, 30);
        c.due("not beyond 30", x.count(7), 0);
    }

    private void guests() {
        c.sentence("guests (how many there are)");
        StringBuilder told = new StringBuilder("tastes guests;");
        for (int n = 1; n <= 6; n++) {
            told.append(Check.guest("g" + (char) ('a' + n), "plain", 1, 1, 0));
            LastCook x = Check.at(told.toString());
            x.minute();
            c.due(n + " guests", x.count(7), n);
        }
    }

    private void night() {
        c.sentence("night (its number, from 0)");
        LastCook x = Check.at(Check.guest("a", "plain", 1, 1, 0) + "tastes night;");
        int sum = 0;
        for (int night = 0; night < 20; night++) {
            c.due("ahead of night " + night, x.count(3), night);
            x.minute();
            sum += night;
            c.due("by night " + night, x.count(7), sum);
        }
    }

    private void oneOrZero() {
        c.sentence("Of not, and, or, < and = comes 1 or 0");
        tastes("not 0", 1);
        tastes("not 1", 0);
        tastes("not 9", 0);
        tastes("5 and 7", 1);
        tastes("5 or 7", 1);
        tastes("0 or 0", 0);
        tastes("5 and 0", 0);
        tastes("(3<4)+(4=4)+not 0", 3);
        tastes("(5 and 5)+(0 or 7)", 2);
        tastes("not not 9", 1);
    }

    private void notZeroIsSo() {
        c.sentence("what is not 0 is so");
        tastes("(0-1) and 1", 1);
        tastes("0 and 1", 0);
        tastes("1 and 1", 1);
        tastes("2 and 2", 1);
        tastes("(0-1) or 0", 1);
        tastes("not (0-1)", 0);
        tastes("not (1-1)", 1);
        tastes("256*256*256*256 or 0", 0);
        tastes("256*256*256*128 or 0", 1);
    }

    private void intsWrap() {
        c.sentence("ints wrap");
        String most = "(9999*9999*21+4790*9999+8416)";
        tastes(most, 99);
        tastes("0<" + most, 1);
        tastes(most + "+1", -99);
        tastes(most + "+1<0", 1);
        tastes("0-" + most + "-1", -99);
        tastes("0-" + most + "-2", 99);
        tastes(most + "-" + most, 0);
        tastes(most + "=9999*9999*21+4790*9999+8416", 1);
        tastes(most + "*2", -2);
        tastes(most + "+" + most + "+3", 1);
        tastes("256*256*256*256+5", 5);
        tastes("4096*4096*256-1", -1);
    }

    private void withoutTastes() {
        c.sentence("Without tastes: skill.");
        LastCook x = Check.at(Check.guest("a", "plain", 1, 1, 20));
        x.minute();
        c.due("20", x.count(7), 20);
        Check.supper(x, Check.guest("a", "plain", 1, 1, 20) + "tastes 3;");
        x.minute();
        c.due("told", x.count(7), 3);
        Check.supper(x, Check.guest("a", "plain", 1, 1, 0));
        x.minute();
        c.due("0, not as told ahead", x.count(7), 0);
        Check.supper(x, "tastes 8;?");
        x.minute();
        c.due("a fault tells nothing", x.count(7), 0);
    }

    private void ninetyNine() {
        c.sentence("the supper tastes as the E of tastes tells, -99 to 99");
        int[] told = {0, 1, 98, 99, 100, 101, 9999};
        for (int n : told) {
            tastes("" + n, Math.min(n, 99));
            tastes("0-" + n, Math.max(-n, -99));
        }
        LastCook x = Check.at(Check.guest("a", "plain", 1, 1, 0) + "tastes 100;");
        Check.minutes(x, 3);
        c.due("each night for itself", x.count(7), 3 * 99);
        x = Check.at(Check.guest("a", "plain", 1, 1, 0) + "tastes 0-100;");
        Check.minutes(x, 3);
        c.due("below as well", x.count(7), -3 * 99);
        c.due("years by it", x.years(3, 1, 1) <= 0 && x.years(3, 99, 1) >= -99 * 99, true);
    }

    private void longLaws() {
        c.sentence("The TAPE has at most 1,000 signs");
        String one = Check.guest("a", "plain", 1, 1, 1);
        LastCook x = new LastCook();
        c.due("a law up to the last sign", Check.tell(x, one + "tastes 499" + Check.times(477, "-1") + ";"), 1000);
        c.due("no fault", x.supper(), 0);
        x.minute();
        c.due("all of it counts", x.count(7), 499 - 477);
        c.due("one sign more", Check.tell(x, one + "tastes 0499" + Check.times(477, "-1") + ";"), 1000);
        c.due("its ; is not there", x.supper(), 1 + 16 * 1000);
        c.due("and one less", Check.tell(x, one + "tastes 99" + Check.times(477, "-0") + ";"), 999);
        c.due("no fault", x.supper(), 0);
        x.minute();
        c.due("99", x.count(7), 99);
    }
}
