/** For each promise of the document: ordinary answers, the edges that it names, and wrong inputs, worked out by hand. */
public final class PromisesTest {
    private static final int NONE = LastCook.NONE;
    /** ann is in at minute 4, ben at 3, cat at 6. */
    private static final String THREE = "guest ann plain off 40 pace 10 cooks 3;guest ben plain off 30 pace 10 cooks 7;"
        + "guest cat plain off 30 pace 5 cooks 12;";
    /** Two shy ones: nobody ever goes in. */
    private static final String COUPLE = "guest a shy off 20 pace 5 cooks 1;guest b shy off 30 pace 5 cooks 2;";

    private final Check c = new Check();

    public static void main(String[] args) {
        PromisesTest t = new PromisesTest();
        t.newObject();
        t.feed();
        t.supper();
        t.supperFaults();
        t.lawFaults();
        t.lawValues();
        t.night();
        t.guest();
        t.wheel();
        t.run();
        t.hire();
        t.minute();
        t.holdingBack();
        t.whoCooks();
        t.undo();
        t.judged();
        t.when();
        t.order();
        t.later();
        t.nights();
        t.delay();
        t.spare();
        t.best();
        t.excuse();
        t.meets();
        t.near();
        t.with();
        t.boy();
        t.held();
        t.fair();
        t.see();
        t.ask();
        t.chance();
        t.rests();
        t.years();
        t.mark();
        t.count();
        t.c.end();
    }

    private static LastCook three() {
        return Check.at(THREE);
    }

    private void newObject() {
        LastCook x = new LastCook();
        int[] due = {0, 10, 30, 0, 0, 0, 0, 0, 0, 0, 0, 0, 0};
        for (int what = 0; what < due.length; what++) {
            c.due("1: count(" + what + ")", x.count(what), due[what]);
        }
        c.due("1: guest(0, 0)", x.guest(0, 0), -2);
        c.due("1: hire(0, 1)", x.hire(0, 1), false);
        c.due("1: wheel(0, 1)", x.wheel(0, 1), NONE);
        c.due("1: mark(3, false)", x.mark(3, false), true);
        c.due("1: mark(3, true)", x.mark(3, true), true);
        c.due("1: NONE", LastCook.NONE, -1);
    }

    private void feed() {
        LastCook x = new LastCook();
        c.due("2: highest first", x.feed(0x6162000000000000L, 0L, 0x63L), 3);
        c.due("2: nothing", x.feed(0, 0, 0), 3);
        c.due("2: blanks count", x.feed(0x0A20L, 0, 0), 5);
        c.due("2: edges left out", x.feed(0x1F7F090B0D80FFFFL, -1L, 0x7E21L), 7);
        x = new LastCook();
        c.due("2: in order", Check.supper(x, "bend 7;hour 8;"), 0);
        c.due("2: bend", x.count(1), 7);
        x = new LastCook();
        for (int i = 0; i < 41; i++) {
            x.feed(0x2020202020202020L, 0x2020202020202020L, 0x2020202020202020L);
        }
        c.due("2: 984", x.count(12), 984);
        c.due("2: 992", x.feed(0x2020202020202020L, 0, 0), 992);
        c.due("2: beyond 1000", x.feed(0x3B20202020202020L, 0x6161616161616161L, 0), 1000);
        c.due("2: the first of the last", x.supper(), 1 + 16 * 992);
        c.due("2: empty then", x.count(12), 0);
    }

    private void supper() {
        LastCook x = three();
        c.due("3: nothing told", x.supper(), 0);
        c.due("3: nobody then", x.count(0), 0);
        c.due("3: letters behind digits", Check.supper(x, "guest a plain off10pace5cooks3;bend\n9;"), 0);
        c.due("3: off", x.guest(0, 1), 10);
        c.due("3: bend", x.count(1), 9);
        c.due("3: 0300 is 300", Check.supper(x, "guest a plain off 0300 pace 030 cooks 0020;bend 50;hour 200;"), 0);
        c.due("3: 300", x.guest(0, 1), 300);
        c.due("3: facts may be names", Check.supper(x, "guest skill plain off 1 pace 1 cooks 0;guest late shy off 1 pace 1 "
            + "cooks 0;guest guests great off 1 pace 1 cooks 0;guest night doctor off 1 pace 1 cooks 0;"), 0);
        c.due("3: four", x.count(0), 4);
        c.due("3: a name of eight", Check.supper(x, "guest abcdefgh plain off 1 pace 1 cooks 0;bend 1;hour 1;"), 0);
        x = three();
        Check.night(x, "minute;minute;");
        x.minute();
        x.wheel(0, 3);
        x.see(0, 0, true);
        x.mark(2, false);
        Check.minutes(x, 9);
        c.due("3: a fault", Check.supper(x, "guest;"), 1 + 16 * 5);
        c.due("3: all stays", x.count(0) + 10 * x.count(3) + 100 * x.count(9), 213);
        c.due("3: again", Check.supper(x, THREE), 0);
        int[] due = {3, 10, 30, 0, 0, 0, 7, 0, 0, 0, 0, 0, 0};
        for (int what = 0; what < due.length; what++) {
            c.due("3: count(" + what + ")", x.count(what), due[what]);
        }
        c.due("3: no mark", x.mark(2, true), false);
        c.due("3: nothing undone", x.undo(), false);
        c.due("3: has not cooked", x.guest(0, 7) + x.guest(1, 7) + x.guest(2, 7), 0);
        Check.supper(x, "bend 5;hour 6;snow 7;tastes 8;");
        Check.supper(x, "bend 6;hour 7;snow 8;tastes 9;");
        c.due("3: told anew", x.count(1) * 100 + x.count(2) * 10 + x.count(5), 678);
        Check.supper(x, THREE);
        Check.supper(x, THREE);
        c.due("3: as at first", x.count(1) * 1000 + x.count(2) * 10 + x.count(5), 10300);
        Check.minutes(x, 6);
        c.due("3: by skill again", x.count(7), 12);
        x.mark(0, false);
        Check.supper(x, THREE);
        c.due("3: no mark 0", x.mark(0, true), false);
    }

    private void supperFault(String text, int kind, int place) {
        LastCook x = new LastCook();
        c.due("3: " + text, Check.supper(x, text), kind + 16 * place);
    }

    private void supperFaults() {
        supperFault("guest", 1, 5);
        supperFault("guest  \n", 1, 8);
        supperFault("Guest a", 1, 0);
        supperFault("minute;", 1, 0);
        supperFault(";", 1, 0);
        supperFault("bend 5", 1, 6);
        supperFault("bend 5 6;", 1, 7);
        supperFault("bend 12345;", 1, 5);
        supperFault("bend x;", 1, 5);
        supperFault("bend 0;", 4, 5);
        supperFault("bend 51;", 4, 5);
        supperFault("bend 50;bend", 3, 8);
        supperFault("hour 201;", 4, 5);
        supperFault("hour 5;hour", 3, 7);
        supperFault("snow 1;snow 1;", 3, 7);
        supperFault("tastes 0;tastes 0;", 3, 9);
        supperFault("snow 10;", 4, 5);
        supperFault("snow x;", 1, 5);
        supperFault("snow 0 1 2 3 4 5 6 7 8 9 0 1 x;", 1, 29);
        supperFault("snow 0 1 2 3 4 5 6 7 8 9 0 1 2;", 5, 29);
        supperFault("snow 0 1 2 3 4 5 6 7 8 9 0 1 10;", 4, 29);
        supperFault("snow 0 1 2 3 4 5 6 7 8 9 0 1;", 0, 0);
        supperFault("guest abcdefghi plain", 1, 6);
        supperFault("guest not plain", 1, 6);
        supperFault("guest wheel plain", 1, 6);
        supperFault("guest 5 plain", 1, 6);
        supperFault("guest a skill off", 1, 8);
        supperFault("guest a plain pace", 1, 14);
        supperFault("guest a plain off x", 1, 18);
        supperFault("guest a plain off 301 pace", 4, 18);
        supperFault("guest a plain off 1 pace 0 cooks", 4, 25);
        supperFault("guest a plain off 1 pace 31 cooks", 4, 25);
        supperFault("guest az plain off 1 pace 1 cooks 0;guest za plain off 1 pace 1 cooks 0;", 0, 0);
        supperFault("guest z{ plain", 1, 7);
        supperFault("guest ` plain", 1, 6);
        supperFault("guest a not off", 1, 8);
        supperFault("guest a plain off 1 pace 1 cooks 21;", 4, 33);
        supperFault("guest a plain off 1 pace 1 cooks 1,", 1, 34);
        String one = "guest a plain off 1 pace 1 cooks 1;";
        supperFault(one + "guest a plain", 3, 41);
        supperFault(one + "guest aa plain off 1 pace 1 cooks 1;", 0, 0);
        StringBuilder many = new StringBuilder();
        for (char name = 'a'; name < 'g'; name++) {
            many.append("guest ").append(name).append(" plain off 1 pace 1 cooks 1;");
        }
        supperFault(many.toString(), 0, 0);
        supperFault(many + "guest 7", 5, 6 * 35);
        supperFault(many + "guets 7", 1, 6 * 35);
        for (String word : Oracle.RESERVED) {
            supperFault("guest " + word + " plain off 1 pace 1 cooks 1;", 1, 6);
        }
    }

    private void lawFaults() {
        supperFault("tastes ;", 1, 7);
        supperFault("tastes skill", 1, 12);
        supperFault("tastes cooks;", 1, 7);
        supperFault("tastes ann;", 1, 7);
        supperFault("tastes -1;", 1, 7);
        supperFault("tastes 1<2<3;", 1, 10);
        supperFault("tastes 1 and 1=2<3;", 1, 16);
        supperFault("tastes (1<2)<3;", 0, 0);
        supperFault("tastes 1+;", 1, 9);
        supperFault("tastes 1 2;", 1, 9);
        supperFault("tastes (1;", 1, 9);
        supperFault("tastes 1);", 1, 8);
        supperFault("tastes 1 not 2;", 1, 9);
        supperFault("tastes 1/2;", 1, 8);
        supperFault("tastes 12345;", 1, 7);
        supperFault("tastes 9999;", 0, 0);
        supperFault("tastes not not not not 1;", 0, 0);
        supperFault("tastes not not not not not 1;", 5, 27);
        supperFault("tastes not not not not not not 1;", 5, 27);
        supperFault("tastes not not not not not ;", 1, 27);
        supperFault("tastes ((((1))));", 0, 0);
        supperFault("tastes (((((1)))));", 5, 12);
        supperFault("tastes ((((((1))))));", 5, 12);
        supperFault("tastes ((((()))));", 1, 12);
        supperFault("tastes (((1+not(1))));", 5, 16);
        supperFault("tastes ((((1)))+((((2)))+not not 3));", 5, 20);
        supperFault("tastes ((((1)))+(((2))+not not not 3));", 5, 35);
        supperFault("tastes ((((1)))+(((2))+not not 3));", 0, 0);
    }

    /** The taste of the first supper by a law: one guest who cooks 7, in at minute 12, the hour being 10. */
    private int taste(String law) {
        LastCook x = Check.at("guest a plain off 12 pace 1 cooks 7;hour 10;tastes " + law + ";");
        Check.minutes(x, 12);
        return x.count(7);
    }

    private void lawValues() {
        String[] laws = {"skill", "late", "guests", "night", "9999", "0-9999", "99", "0-99", "100", "1-2-3", "2+3*4", "(2+3)*4",
            "2<3", "3<3", "3=3", "3=4", "1+2=3", "not 0", "not 5", "not 0*9", "not (0*9)", "1 or 1 and 0", "0 and 0 or 1", "5 and 3",
            "5 or 0", "0 or 0", "1<2 and 3<4", "1<2+0 or 0", "9999*9999*9999", "9999*9999*5", "skill*late-night+guests",
            "1+(2<3)+(4=4)", "not not 5"};
        int[] due = {7, 2, 1, 0, 99, -99, 99, -99, 99, -4, 14, 20, 1, 0, 1, 0, 1, 1, 0, 9, 1, 0, 1, 1, 1, 0, 1, 1, -99, 99, 15, 3, 1};
        for (int i = 0; i < laws.length; i++) {
            c.due("3: taste by " + laws[i], taste(laws[i]), due[i]);
        }
        c.due("3: ints wrap below", taste("9999*9999*9*3"), 9999 * 9999 * 27 < 0 ? -99 : 99);
        c.due("3: ints wrap", taste("9999*9999*9999-(9999*9999*9999-5)"), 5);
        c.due("3: wrapped, compared", taste("9999*9999*30<0"), 9999 * 9999 * 30 < 0 ? 1 : 0);
        StringBuilder sum = new StringBuilder("1");
        for (int i = 0; i < 98; i++) {
            sum.append("+1");
        }
        c.due("3: a long sum", taste(sum.toString()), 99);
        c.due("3: all levels waiting", taste("1 or 1<1+1*(1 or 1<1+1*(1 or 1<1+1*(1 or 1<1+1*(0 or 3<2+2*5))))"), 1);
        LastCook x = Check.at("guest a plain off 1 pace 1 cooks 7;hour 1;tastes night*10+late;");
        Check.minutes(x, 3);
        c.due("3: nights from 0", x.count(7), 30);
    }

    private void nightFault(String text, int kind, int place) {
        c.due("4: " + text, Check.night(three(), text), kind + 16 * place);
    }

    private void night() {
        LastCook x = three();
        c.due("4: lines", Check.night(x, "wheel ann 60;run ben 9;hire ann cat;minute;"), 0);
        c.due("4: four", x.count(9), 4);
        c.due("4: a fault leaves it", Check.night(x, "minute"), 1 + 16 * 6);
        c.due("4: four still", x.count(9), 4);
        c.due("4: empty", x.night(), 0);
        c.due("4: none", x.count(9), 0);
        c.due("4: nothing is done by it", x.count(4), 0);
        nightFault("wheel ann 0;", 4, 10);
        nightFault("wheel ann 61;", 4, 10);
        nightFault("run ann 0;", 4, 8);
        nightFault("run ann 10;", 4, 8);
        nightFault("run ann ben;", 1, 8);
        nightFault("wheel off 1;", 1, 6);
        nightFault("wheel dan 1;", 2, 6);
        nightFault("wheel skill 1;", 2, 6);
        nightFault("wheel abcdefghi 1;", 1, 6);
        nightFault("hire ann ann;", 3, 9);
        nightFault("hire ann dan;", 2, 9);
        nightFault("hire dan dan;", 2, 5);
        nightFault("hire ann minute;", 1, 9);
        nightFault("hire ann ben cat;", 1, 13);
        nightFault("minute ann;", 1, 7);
        nightFault("bend 5;", 1, 0);
        StringBuilder many = new StringBuilder();
        for (int i = 0; i < 40; i++) {
            many.append("minute;");
        }
        nightFault(many.toString(), 0, 0);
        nightFault(many + "run 5", 5, 280);
        nightFault(many + "runs 5", 1, 280);
    }

    private void guest() {
        LastCook x = Check.at("guest a plain off 5 pace 5 cooks 1;guest b doctor off 20 pace 4 cooks 2;guest c shy off 30 pace 3 "
            + "cooks 0;guest d great off 300 pace 30 cooks 20;");
        x.wheel(1, 9);
        x.run(2, 2);
        x.hire(2, 3);
        x.minute();
        int[][] due = {{0, 0, 5, 1, 0, 0, -1, 0}, {1, 20, 4, 2, -1, 8, -1, 0}, {2, 25, 5, 0, -1, 0, -1, 0},
            {3, 270, 30, 20, -1, 0, 2, 0}};
        for (int g = 0; g < 4; g++) {
            for (int what = 0; what < 8; what++) {
                c.due("5: guest(" + g + ", " + what + ")", x.guest(g, what), due[g][what]);
            }
        }
        c.due("5: what -1", x.guest(0, -1), -2);
        c.due("5: what 8", x.guest(0, 8), -2);
        c.due("5: guest -1", x.guest(-1, 0), -2);
        c.due("5: guest 4", x.guest(4, 0), -2);
        c.due("5: guest 6", x.guest(6, 0), -2);
    }

    private void wheel() {
        LastCook x = three();
        c.due("6: 5", x.wheel(0, 5), 5);
        c.due("6: more", x.wheel(0, 50), 55);
        c.due("6: 60 at most", x.wheel(0, 10), 60);
        c.due("6: 60", x.wheel(1, 60), 60);
        c.due("6: 61", x.wheel(2, 61), NONE);
        c.due("6: 0", x.wheel(2, 0), NONE);
        c.due("6: guest 3", x.wheel(3, 1), NONE);
        c.due("6: guest -1", x.wheel(-1, 1), NONE);
        c.due("6: undone", x.count(11), 4);
        x = three();
        x.wheel(1, 2);
        Check.minutes(x, 3);
        c.due("6: stays, then goes", x.guest(1, 1), 20);
        Check.minutes(x, 1);
        c.due("6: ann is in", x.wheel(0, 1), NONE);
    }

    private void run() {
        LastCook x = three();
        c.due("7: 1", x.run(2, 1), 6);
        c.due("7: 9", x.run(2, 9), 15);
        c.due("7: 10", x.run(2, 10), NONE);
        c.due("7: 0", x.run(2, 0), NONE);
        c.due("7: guest 3", x.run(3, 1), NONE);
        c.due("7: guest -1", x.run(-1, 1), NONE);
        x.minute();
        c.due("7: he goes so", x.guest(2, 1), 15);
        x.minute();
        c.due("7: in", x.run(2, 1), NONE);
        Check.minutes(x, 2);
        c.due("7: the next night", x.count(3), 1);
        c.due("7: pace as told", x.guest(2, 2), 5);
        x = Check.at("guest a plain off 300 pace 30 cooks 1;");
        x.run(0, 9);
        c.due("7: 40 at most", x.run(0, 9), 40);
    }

    private void hire() {
        LastCook x = three();
        c.due("8: same", x.hire(0, 0), false);
        c.due("8: other 3", x.hire(0, 3), false);
        c.due("8: guest -1", x.hire(-1, 0), false);
        c.due("8: ben by ann", x.hire(0, 1), true);
        c.due("8: ben again", x.hire(2, 1), false);
        c.due("8: cat by ann", x.hire(0, 2), true);
        c.due("8: ann by ben", x.hire(1, 0), true);
        c.due("8: undone", x.count(11), 3);
        x = three();
        Check.minutes(x, 3);
        c.due("8: ben is in", x.guest(1, 4), 0);
        c.due("8: by who is in", x.hire(1, 0), false);
        c.due("8: who is in", x.hire(0, 1), false);
        c.due("8: both on the road", x.hire(0, 2), true);
        Check.minutes(x, 3);
        c.due("8: the next night", x.count(3), 1);
        c.due("8: nobody is hired", x.guest(2, 6), NONE);
    }

    private void minute() {
        LastCook x = Check.at("guest a plain off 20 pace 5 cooks 4;snow 0 3 9;hour 2;tastes skill*10-late;");
        c.due("9: first", x.minute(), NONE);
        c.due("9: no snow", x.guest(0, 1), 15);
        c.due("9: snow of minute 1", x.count(5), 3);
        x.minute();
        c.due("9: snow of 3", x.guest(0, 1), 13);
        x.minute();
        c.due("9: 1 at least", x.guest(0, 1), 12);
        c.due("9: snow again", x.count(5), 0);
        x.minute();
        c.due("9: 5", x.guest(0, 1), 7);
        x.minute();
        x.minute();
        c.due("9: 4 and 1 to go", x.guest(0, 1), 4);
        c.due("9: eaten", x.minute(), 0);
        c.due("9: tasted", x.count(7), 40 - 5);
        c.due("9: minute 0", x.count(4), 0);
        c.due("9: night 1", x.count(3), 1);
        c.due("9: eaten once", x.count(8), 1);
        c.due("9: as told", x.guest(0, 1), 20);
        x = Check.at("guest a plain off 9 pace 3 cooks 1;guest b plain off 9 pace 3 cooks 2;guest c plain off 6 pace 3 cooks 3;"
            + "guest d plain off 30 pace 3 cooks 3;");
        Check.minutes(x, 3);
        c.due("9: first in", x.guest(2, 4), 0);
        c.due("9: by numbers", x.guest(0, 4) * 10 + x.guest(1, 4), 12);
        x = Check.at("guest a plain off 20 pace 5 cooks 4;snow 3;");
        Check.minutes(x, 2);
        c.due("9: one snow for all", x.guest(0, 1), 16);
        x = Check.at("guest a plain off 1 pace 30 cooks 1;hour 1;tastes late;");
        x.minute();
        c.due("9: not beyond the hour", x.count(7), 0);
    }

    private void holdingBack() {
        LastCook x = Check.at("guest a shy off 20 pace 15 cooks 1;guest b plain off 60 pace 20 cooks 2;");
        x.minute();
        c.due("9: shy to the bend", x.guest(0, 1), 10);
        Check.minutes(x, 2);
        c.due("9: by who was in ahead", x.guest(0, 1), 10);
        c.due("9: b is in", x.guest(1, 1), 0);
        c.due("9: then in", x.minute(), 0);
        x = Check.at("guest a shy off 5 pace 3 cooks 1;guest b plain off 60 pace 20 cooks 2;");
        x.minute();
        c.due("9: nearer already", x.guest(0, 1), 5);
        x = Check.at("guest a shy off 5 pace 5 cooks 1;");
        c.due("9: a shy one alone", x.minute(), 0);
        x = Check.at("guest a great off 5 pace 5 cooks 1;guest b great off 50 pace 10 cooks 2;bend 30;");
        x.minute();
        c.due("9: great ones alone", x.guest(0, 4), 0);
        x = Check.at("guest a great off 25 pace 9 cooks 1;guest b doctor off 4 pace 1 cooks 2;guest d plain off 3 pace 1 cooks 2;"
            + "bend 20;");
        Check.minutes(x, 4);
        c.due("9: great waits for all", x.guest(0, 1), 20);
        c.due("9: b is in", x.guest(1, 4), 1);
        Check.minutes(x, 2);
        c.due("9: then goes", x.guest(0, 1), 2);
        c.due("9: and cooks", x.minute(), 0);
        x = three();
        x.hire(2, 1);
        Check.minutes(x, 4);
        c.due("9: hired to the bend", x.guest(1, 1), 10);
        Check.minutes(x, 2);
        c.due("9: cat is in", x.guest(2, 4), 1);
        c.due("9: hired cooks", x.minute(), 1);
        x = three();
        x.hire(0, 1);
        x.hire(1, 0);
        Check.minutes(x, 90);
        c.due("9: each waits for the other", x.count(6), 3);
        x = Check.at("guest a great off 20 pace 9 cooks 1;guest b shy off 20 pace 9 cooks 2;");
        Check.minutes(x, 90);
        c.due("9: shy and great wait", x.count(6), 3);
    }

    private void whoCooks() {
        LastCook x = Check.at("guest a plain off 5 pace 5 cooks 1;guest b doctor off 50 pace 5 cooks 9;guest d doctor off 60 pace 5 "
            + "cooks 9;");
        Check.minutes(x, 11);
        c.due("9: doctors are let off", x.minute(), 0);
        x = Check.at("guest a doctor off 5 pace 5 cooks 1;guest b doctor off 50 pace 5 cooks 9;guest d doctor off 50 pace 5 cooks 9;");
        Check.minutes(x, 9);
        c.due("9: all are doctors", x.minute(), 2);
        c.due("9: has cooked", x.guest(2, 7), 1);
    }

    private void undo() {
        LastCook x = three();
        c.due("10: nothing", x.undo(), false);
        x.wheel(0, 9);
        x.run(1, 3);
        x.hire(0, 2);
        x.minute();
        x.wheel(0, 61);
        c.due("10: four", x.count(11), 4);
        c.due("10: the minute", x.undo(), true);
        c.due("10: where he was", x.guest(1, 1), 30);
        c.due("10: hired yet", x.guest(2, 6), 0);
        x.undo();
        c.due("10: not hired", x.guest(2, 6), NONE);
        x.undo();
        c.due("10: pace", x.guest(1, 2), 10);
        x.undo();
        c.due("10: not stuck", x.guest(0, 5), 0);
        c.due("10: nothing more", x.undo(), false);
        Check.minutes(x, 20);
        c.due("10: 16 at most", x.count(11), 16);
        for (int i = 0; i < 16; i++) {
            c.due("10: undo " + i, x.undo(), true);
        }
        c.due("10: no seventeenth", x.undo(), false);
        c.due("10: the fifth minute", x.count(4), 4);
        Check.minutes(x, 2);
        c.due("10: eaten", x.count(7) * 100 + x.guest(2, 7) * 10 + x.count(8), 1211);
        x.undo();
        c.due("10: not eaten", x.count(7) + x.guest(2, 7) + x.count(3) + x.count(8), 0);
        c.due("10: two in", x.count(6), 4);
        Check.night(x, "minute;");
        x.see(1, 1, true);
        x.undo();
        c.due("10: what is told and seen stays", x.count(9) * 10 + x.count(10), 11);
    }

    private void judged() {
        LastCook x = three();
        Check.night(x, "minute;minute;minute;wheel ben 5;run ben 1;hire ben ann;minute;hire cat ben;minute;minute;minute;wheel ben 1;");
        Check.minutes(x, 4);
        c.due("11: the first that can't be", x.judged(0), 3);
        c.due("11: eaten by", x.judged(1), 9);
        c.due("11: tasted", x.judged(2), 12);
        c.due("11: all is as ahead", x.count(4), 4);
        c.due("11: -1", x.judged(-1), -1000);
        c.due("11: 3", x.judged(3), -1000);
        Check.night(x, "hire ann ben;hire cat ben;minute;");
        c.due("11: hired already", x.judged(0), 1);
        Check.night(x, "wheel cat 1;minute;minute;");
        c.due("11: none", x.judged(0), NONE);
        c.due("11: not eaten", x.judged(1), NONE);
        c.due("11: nothing tasted", x.judged(2), 0);
        StringBuilder many = new StringBuilder();
        for (int i = 0; i < 13; i++) {
            many.append("minute;");
        }
        Check.night(x, many.toString());
        c.due("11: the first of two", x.judged(1), 5);
        c.due("11: together", x.judged(2), 24);
    }

    private void when() {
        LastCook x = three();
        c.due("12: 6", x.when(), 6);
        c.due("13: cat", x.cook(), 2);
        Check.minutes(x, 5);
        c.due("12: 1", x.when(), 1);
        x.minute();
        c.due("12: 6 again", x.when(), 6);
        x.wheel(1, 60);
        c.due("12: 63", x.when(), 63);
        c.due("13: ben", x.cook(), 1);
        x = Check.at(COUPLE);
        c.due("12: never", x.when(), NONE);
        c.due("13: never", x.cook(), NONE);
        String slow = "guest a plain off 300 pace 1 cooks 1;guest b great off 300 pace 1 cooks 2;bend 50;";
        x = Check.at(slow);
        x.wheel(0, 50);
        c.due("12: 400", x.when(), 400);
        c.due("13: by 400", x.cook(), 1);
        x.wheel(0, 1);
        c.due("12: 401", x.when(), NONE);
        c.due("13: 401", x.cook(), NONE);
        c.due("14: in by 400", x.order(0), 0);
        c.due("14: not by 400", x.order(1), NONE);
        c.due("23: not by 400", x.with(1), NONE);
        c.due("23: by 400", x.with(0), 0);
        x.minute();
        c.due("12: 400 then", x.when(), 400);
        c.due("14: by 400", x.order(1), 1);
        c.due("23: at 400", x.with(1), 0);
    }

    private void order() {
        LastCook x = three();
        c.due("14: first", x.order(0), 1);
        c.due("14: second", x.order(1), 0);
        c.due("14: third", x.order(2), 2);
        c.due("14: fourth", x.order(3), NONE);
        c.due("14: -1", x.order(-1), NONE);
        Check.minutes(x, 5);
        c.due("14: who is in, too", x.order(0), 1);
        c.due("14: who comes", x.order(2), 2);
        x = Check.at(COUPLE + "guest d doctor off 5 pace 5 cooks 1;");
        x.hire(0, 1);
        x.hire(1, 0);
        c.due("14: never eaten, yet in", x.order(0), 2);
        c.due("14: never", x.order(1), NONE);
    }

    private void later() {
        LastCook x = three();
        c.due("15: now", x.later(0, 0), 40);
        c.due("15: 3", x.later(0, 3), 10);
        c.due("15: in", x.later(0, 4), 0);
        c.due("15: the next night", x.later(0, 6), 40);
        c.due("15: its first minute", x.later(0, 7), 30);
        c.due("15: 60", x.later(2, 60), 30);
        c.due("15: 61", x.later(0, 61), NONE);
        c.due("15: -1", x.later(0, -1), NONE);
        c.due("15: guest 3", x.later(3, 1), NONE);
        c.due("15: guest -1", x.later(-1, 1), NONE);
    }

    private void nights() {
        LastCook x = three();
        x.wheel(1, 10);
        c.due("16: ben, stuck", x.nights(1), 1);
        c.due("16: then cat", x.nights(2), 2);
        c.due("16: sixth", x.nights(6), 2);
        c.due("16: 0", x.nights(0), NONE);
        c.due("16: 7", x.nights(7), NONE);
        c.due("16: never", Check.at(COUPLE).nights(1), NONE);
        String slow = "guest a plain off 300 pace 1 cooks 1;guest b great off 300 pace 1 cooks 2;bend 50;";
        x = Check.at(slow);
        c.due("16: 6 times 350", x.nights(6), 1);
        x.wheel(0, 60);
        c.due("16: over 400 is no bar", x.nights(1), 1);
        x = Check.at("guest a plain off 300 pace 1 cooks 1;guest b shy off 300 pace 1 cooks 1;guest d great off 300 pace 1 cooks 2;"
            + "bend 50;");
        c.due("16: 2400", x.nights(6), 2);
        x.wheel(0, 1);
        c.due("16: 2401", x.nights(6), NONE);
        c.due("16: 2001", x.nights(5), 2);
        x.minute();
        c.due("16: 2400 then", x.nights(6), 2);
    }

    private void delay() {
        LastCook x = three();
        c.due("17: cooks already", x.delay(2), 0);
        c.due("17: one minute behind, or with by a lower number", x.delay(0), 3);
        c.due("17: ben", x.delay(1), 4);
        c.due("17: guest 3", x.delay(3), NONE);
        c.due("17: guest -1", x.delay(-1), NONE);
        Check.minutes(x, 3);
        c.due("17: in", x.delay(1), NONE);
        x = Check.at("guest a plain off 10 pace 10 cooks 1;guest b plain off 61 pace 1 cooks 1;");
        c.due("17: with by number is not behind", x.delay(0), NONE);
        x = Check.at("guest b plain off 61 pace 1 cooks 1;guest a plain off 10 pace 10 cooks 1;");
        c.due("17: 60 with by number", x.delay(1), 60);
        x = Check.at("guest a doctor off 10 pace 10 cooks 1;guest b plain off 30 pace 10 cooks 1;");
        c.due("17: a doctor never", x.delay(0), NONE);
        c.due("17: not stuck at all", x.count(11), 0);
    }

    private void spare() {
        LastCook x = three();
        c.due("18: another does", x.spare(0), 0);
        c.due("18: cat, in by 4 with ann, is last by number; by 3 is not", x.spare(2), 5);
        c.due("18: guest 3", x.spare(3), NONE);
        c.due("18: guest -1", x.spare(-1), NONE);
        Check.minutes(x, 3);
        c.due("18: in", x.spare(1), NONE);
        c.due("18: never eaten", Check.at(COUPLE).spare(0), NONE);
        x = Check.at("guest a plain off 10 pace 10 cooks 1;guest b plain off 300 pace 1 cooks 1;");
        c.due("18: by none", x.spare(1), NONE);
        x = Check.at("guest a plain off 10 pace 1 cooks 1;guest b plain off 110 pace 2 cooks 1;");
        c.due("18: by 9, ten minutes, is last by number", x.spare(1), NONE);
        x = Check.at("guest b plain off 110 pace 2 cooks 1;guest a plain off 10 pace 1 cooks 1;");
        c.due("18: by 9", x.spare(0), 9);
    }

    private void best() {
        LastCook x = three();
        c.due("19: cat cooks best", x.best(), NONE);
        x = Check.at("guest a plain off 40 pace 10 cooks 3;guest b plain off 30 pace 10 cooks 7;guest d plain off 30 pace 5 cooks 2;");
        c.due("19: b by d", x.best(), 8 * 2 + 1);
        x.hire(0, 1);
        c.due("19: b is hired", x.best(), 8 * 2);
        x = Check.at("guest a plain off 10 pace 10 cooks 5;guest b plain off 10 pace 10 cooks 5;guest d plain off 60 pace 5 cooks 2;");
        c.due("19: of equal ones the first", x.best(), 16);
        x = Check.at("guest a plain off 10 pace 10 cooks 5;guest b plain off 60 pace 5 cooks 5;");
        c.due("19: as good is not better", x.best(), NONE);
        x = Check.at("guest a plain off 60 pace 5 cooks 2;guest b plain off 10 pace 10 cooks 5;tastes skill*10;");
        c.due("19: by the first", x.best(), 1);
        Check.minutes(x, 12);
        c.due("19: eaten", x.count(7), 20);
        c.due("19: the next supper alone", x.best(), 1);
        x.wheel(1, 60);
        c.due("19: he cooks by himself", x.best(), NONE);
        x = Check.at("guest a plain off 60 pace 5 cooks 2;guest b plain off 60 pace 4 cooks 5;tastes 0-late;hour 1;");
        c.due("19: below 0", x.best(), NONE);
        c.due("19: never", Check.at(COUPLE).best(), NONE);
        c.due("19: nothing is hired", x.guest(0, 6), NONE);
    }

    private void excuse() {
        LastCook x = three();
        c.due("20: both", x.excuse(2), 3);
        c.due("20: does not cook", x.excuse(0), 0);
        c.due("20: guest 3", x.excuse(3), NONE);
        c.due("20: guest -1", x.excuse(-1), NONE);
        Check.minutes(x, 4);
        c.due("20: they are in", x.excuse(2), 0);
        x = Check.at("guest a doctor off 10 pace 10 cooks 1;guest b plain off 30 pace 10 cooks 1;guest d plain off 5 pace 5 cooks 0;");
        c.due("20: no doctor", x.excuse(1), 4);
        c.due("20: never", Check.at(COUPLE).excuse(0), 0);
    }

    private void meets() {
        LastCook x = three();
        c.due("21: ann and ben", x.meets(0, 1), NONE);
        c.due("21: at once", x.meets(1, 2), 0);
        c.due("21: behind 2", x.meets(2, 0), 2);
        c.due("21: same", x.meets(1, 1), NONE);
        c.due("21: guest 3", x.meets(0, 3), NONE);
        c.due("21: guest 3 first", x.meets(3, 0), NONE);
        c.due("21: guest 6", x.meets(0, 6), NONE);
        c.due("21: guest -1", x.meets(-1, 0), NONE);
        Check.minutes(x, 4);
        c.due("21: in the next night", x.meets(1, 2), 2);
        x = Check.at("guest a plain off 10 pace 10 cooks 1;guest b plain off 20 pace 20 cooks 1;");
        c.due("21: both in is not on the road", x.meets(0, 1), NONE);
        x = Check.at("guest a plain off 120 pace 1 cooks 1;guest b plain off 180 pace 2 cooks 1;");
        c.due("21: 60", x.meets(0, 1), 60);
        x = Check.at("guest a plain off 120 pace 1 cooks 1;guest b plain off 181 pace 2 cooks 1;");
        c.due("21: 61", x.meets(0, 1), NONE);
        c.due("21: at the bend", Check.at(COUPLE).meets(0, 1), 4);
    }

    private void near() {
        LastCook x = three();
        c.due("22: 30", x.near(30), 6);
        c.due("22: 29", x.near(29), 0);
        c.due("22: 300", x.near(300), 7);
        c.due("22: 0", x.near(0), 0);
        c.due("22: 301", x.near(301), NONE);
        c.due("22: -1", x.near(-1), NONE);
        Check.minutes(x, 3);
        c.due("22: ben is in", x.near(300), 5);
    }

    private void with() {
        LastCook x = Check.at("guest a plain off 9 pace 3 cooks 1;guest b plain off 9 pace 3 cooks 2;guest e plain off 6 pace 3 "
            + "cooks 3;guest d plain off 3 pace 1 cooks 3;");
        c.due("23: with two", x.with(0), 2);
        c.due("23: alone", x.with(2), 0);
        c.due("23: guest 4", x.with(4), NONE);
        c.due("23: guest -1", x.with(-1), NONE);
        x.wheel(3, 1);
        Check.minutes(x, 3);
        c.due("23: is in", x.with(1), 1);
        c.due("23: will be", x.with(3), 0);
        c.due("23: never", Check.at(COUPLE).with(0), NONE);
        x = three();
        Check.minutes(x, 5);
        c.due("23: the last minute of the night", x.with(2), 0);
        x = Check.at("guest a plain off 3 pace 1 cooks 1;guest b plain off 3 pace 1 cooks 1;guest d plain off 9 pace 1 cooks 1;");
        Check.minutes(x, 9);
        x.wheel(1, 4);
        Check.minutes(x, 3);
        c.due("23: of the next night", x.with(0), 0);
    }

    private void boy() {
        LastCook x = three();
        c.due("24: now", x.boy(0), 3);
        c.due("24: 3", x.boy(3), 2);
        c.due("24: 5", x.boy(5), 1);
        c.due("24: the next night", x.boy(6), 3);
        c.due("24: 60", x.boy(60), 3);
        c.due("24: 61", x.boy(61), NONE);
        c.due("24: -1", x.boy(-1), NONE);
    }

    private void held() {
        LastCook x = Check.at("guest a shy off 12 pace 1 cooks 1;guest b great off 8 pace 1 cooks 1;guest d plain off 40 pace 5 cooks 1;"
            + "guest e plain off 40 pace 15 cooks 1;");
        c.due("25: nearer", x.held(), 2);
        x.hire(2, 3);
        x.minute();
        c.due("25: beyond the bend", x.held(), 2);
        x.minute();
        c.due("25: at the bend, hired", x.held(), 11);
        x.wheel(0, 5);
        x.minute();
        c.due("25: stuck", x.held(), 11);
        Check.minutes(x, 5);
        c.due("25: d is in", x.guest(2, 4), 0);
        c.due("25: great for e", x.held(), 2);
    }

    private void fair() {
        LastCook x = three();
        c.due("26: at first", x.fair(), 0);
        Check.minutes(x, 12);
        c.due("26: twice", x.fair(), 2);
        x.wheel(0, 60);
        Check.minutes(x, 64);
        c.due("26: ann", x.guest(0, 7), 1);
        c.due("26: least is ben", x.fair(), 2);
        x.wheel(1, 60);
        Check.minutes(x, 63);
        c.due("26: one each and one", x.fair(), 1);
        x = Check.at("guest a plain off 9 pace 1 cooks 1;guest b plain off 1 pace 1 cooks 1;");
        Check.minutes(x, 18);
        c.due("26: the first, twice", x.fair(), 2);
        x = Check.at("guest a plain off 1 pace 1 cooks 1;");
        Check.minutes(x, 18);
        c.due("26: one alone", x.fair(), 0);
    }

    private void see() {
        LastCook x = three();
        c.due("28: all", x.who(), 7);
        c.due("27: 61", x.see(61, 0, true), false);
        c.due("27: -1", x.see(-1, 0, true), false);
        c.due("27: yards 301", x.see(0, 301, true), false);
        c.due("27: yards -1", x.see(0, -1, true), false);
        c.due("27: none", x.count(10), 0);
        c.due("27: no more than 10 behind 2", x.see(2, 10, true), true);
        c.due("28: ben", x.who(), 2);
        x.minute();
        c.due("28: by where they are now", x.who(), 3);
        c.due("27: farther than 0 behind 60", x.see(60, 0, false), true);
        x.see(3, 0, false);
        c.due("28: nobody", x.who(), 0);
        for (int i = 0; i < 5; i++) {
            c.due("27: more", x.see(0, 300, true), true);
        }
        c.due("27: eight there are", x.see(0, 300, true), false);
        c.due("27: eight", x.count(10), 8);
        x = three();
        x.see(4, 0, true);
        c.due("28: 0 yards if in", x.who(), 3);
        Check.minutes(x, 3);
        c.due("28: on the road now", x.who(), 0);
    }

    private void ask() {
        LastCook x = three();
        c.due("29: 30 parts two from one", x.ask(), 30);
        x.see(0, 30, true);
        c.due("29: ben and cat part behind 1", x.ask(), 1020);
        x.see(1, 20, true);
        c.due("29: ben alone", x.ask(), NONE);
        x = Check.at("guest a plain off 10 pace 1 cooks 1;guest b plain off 20 pace 1 cooks 1;guest d plain off 30 pace 1 cooks 1;"
            + "guest e plain off 40 pace 1 cooks 1;");
        c.due("29: in halves", x.ask(), 20);
        x = Check.at("guest a plain off 10 pace 1 cooks 1;guest b plain off 10 pace 1 cooks 1;");
        c.due("29: none parts them", x.ask(), NONE);
        x = Check.at("guest a plain off 300 pace 5 cooks 1;guest b plain off 300 pace 6 cooks 1;snow 9 9 9 9 9 9 9 0;");
        c.due("29: behind 8", x.ask(), 8287);
        x = Check.at("guest a plain off 120 pace 1 cooks 1;guest b plain off 120 pace 1 cooks 1;");
        x.wheel(0, 59);
        x.wheel(1, 60);
        c.due("29: behind 60", x.ask(), 60119);
        x.minute();
        c.due("29: behind 59", x.ask(), 59119);
        x = Check.at("guest a plain off 120 pace 1 cooks 1;guest b plain off 120 pace 1 cooks 1;guest d great off 120 pace 2 cooks 1;");
        c.due("29: d parts one from two, behind 1", x.ask(), 1118);
        x = Check.at("guest a plain off 40 pace 1 cooks 1;guest b plain off 30 pace 1 cooks 1;guest d plain off 20 pace 2 cooks 1;");
        c.due("29: the least yards", x.ask(), 20);
        x = Check.at("guest a plain off 4 pace 4 cooks 1;guest b plain off 4 pace 3 cooks 1;");
        c.due("29: in is 0 yards", x.ask(), 1000);
    }

    private void chance() {
        LastCook x = Check.at("guest a plain off 10 pace 10 cooks 1;guest b plain off 300 pace 1 cooks 1;snow 9;");
        c.due("30: by no snow", x.chance(0, 1, 3), 700000);
        c.due("30: one of two", x.chance(0, 2, 3), 910000);
        c.due("30: one of six", x.chance(0, 6, 9), 468559);
        c.due("30: odds 0", x.chance(0, 1, 0), 1000000);
        c.due("30: odds 10", x.chance(0, 6, 10), 0);
        c.due("30: too far", x.chance(1, 6, 5), 0);
        c.due("30: minutes 0", x.chance(0, 0, 5), NONE);
        c.due("30: minutes 7", x.chance(0, 7, 5), NONE);
        c.due("30: odds 11", x.chance(0, 1, 11), NONE);
        c.due("30: odds -1", x.chance(0, 1, -1), NONE);
        c.due("30: guest 2", x.chance(2, 1, 5), NONE);
        c.due("30: guest -1", x.chance(-1, 1, 5), NONE);
        Check.minutes(x, 10);
        c.due("30: in", x.chance(0, 1, 5), NONE);
        x = Check.at("guest a plain off 10 pace 10 cooks 1;");
        c.due("30: it was eaten in them", x.chance(0, 2, 3), 910000);
        c.due("30: nothing is done", x.count(3) + x.count(4), 0);
        x = Check.at("guest a plain off 12 pace 11 cooks 1;guest b plain off 300 pace 1 cooks 1;");
        c.due("30: 2 yards by a snow of 9", x.chance(0, 6, 10), 1000000);
        c.due("30: not by 5 of them", x.chance(0, 5, 10), 0);
    }

    private void rests() {
        LastCook x = new LastCook();
        c.due("31: one goes", Check.rests(x, 2, 5, 1, NONE), 2);
        c.due("31: the other one", Check.rests(x, 2, 5, 1, 0), 1);
        c.due("31: the first one", Check.rests(x, 2, 5, 1, 1), 2);
        c.due("31: no third", Check.rests(x, 2, 5, 1, 2), -9);
        c.due("31: all rest", Check.rests(x, 0, 0, 0, NONE), 4);
        c.due("31: both wait", Check.rests(x, 0, 0, 0, 0), 0);
        c.due("31: both go in", Check.rests(x, 0, 0, 0, 3), 3);
        c.due("31: none goes in for nothing", Check.rests(x, 9, 0, 9, NONE), 3);
        c.due("31: losing nothing", Check.rests(x, 0, 9, 0, NONE), 3);
        c.due("31: both go in, third", Check.rests(x, 0, 9, 0, 2), 3);
        c.due("31: what -2", Check.rests(x, 1, 1, 1, -2), -9);
        c.due("31: lose 10", Check.rests(x, 10, 1, 1, NONE), -9);
        c.due("31: goes 10", Check.rests(x, 1, 10, 1, NONE), -9);
        c.due("31: waits 10", Check.rests(x, 1, 1, 10, NONE), -9);
        c.due("31: lose -1", Check.rests(x, -1, 1, 1, NONE), -9);
        c.due("31: goes -1", Check.rests(x, 1, -1, 1, NONE), -9);
        c.due("31: waits -1", Check.rests(x, 1, 1, -1, NONE), -9);
        c.due("31: 9 9 9", Check.rests(x, 9, 9, 9, NONE), 2);
    }

    private void years() {
        LastCook x = three();
        for (int seed = 0; seed < 40; seed++) {
            int minutes = 1 + 13 * seed % 99;
            byHand(THREE, 3, seed, minutes);
            byHand("guest a plain off 9 pace 1 cooks 2;", 1, 250 * seed, minutes);
        }
        c.due("32: seed -1", x.years(-1, 5, 0), -100000);
        c.due("32: seed 10000", x.years(10000, 5, 0), -100000);
        c.due("32: minutes 0", x.years(1, 0, 0), -100000);
        c.due("32: minutes 100", x.years(1, 100, 0), -100000);
        c.due("32: what 3", x.years(1, 5, 3), -100000);
        c.due("32: what -1", x.years(1, 5, -1), -100000);
        x.years(9999, 99, 1);
        c.due("32: as ahead", x.count(4) + x.count(7) + x.count(11), 0);
        LastCook nobody = new LastCook();
        c.due("32: nobody", nobody.years(5, 99, 0) + nobody.years(5, 99, 1) + nobody.years(5, 99, 2), 0);
    }

    /** The same deeds by the calls of the face. */
    private void byHand(String supper, int guests, int seed, int minutes) {
        LastCook x = Check.at(supper);
        Check.minutes(x, seed % 20);
        int[] got = {x.years(seed, minutes, 0), x.years(seed, minutes, 1), x.years(seed, minutes, 2)};
        int eaten = x.count(8);
        int tasted = x.count(7);
        long[] g = {seed};
        for (int i = 0; i < minutes; i++) {
            int deed = draw(g, 8);
            if (deed <= 2) {
                int who = draw(g, guests);
                int other = draw(g, deed == 0 ? 20 : deed == 1 ? 9 : guests);
                if (deed == 0) {
                    x.wheel(who, other + 1);
                } else if (deed == 1) {
                    x.run(who, other + 1);
                } else {
                    x.hire(who, other);
                }
            }
            x.minute();
        }
        c.due("32: how often by " + seed, got[0], x.count(8) - eaten);
        c.due("32: tasted by " + seed, got[1], x.count(7) - tasted);
        c.due("32: on the road by " + seed, got[2], x.count(6));
    }

    private static int draw(long[] g, int m) {
        g[0] = (g[0] * 1103515245L + 12345L) & 0x7fffffffL;
        return (int) ((g[0] >> 16) % m);
    }

    private void mark() {
        LastCook x = three();
        c.due("33: 4", x.mark(4, false), false);
        c.due("33: -1", x.mark(-1, false), false);
        c.due("33: nothing on it", x.mark(0, true), false);
        Check.minutes(x, 8);
        x.wheel(0, 7);
        Check.night(x, "minute;run ann 1;");
        x.see(1, 20, true);
        c.due("33: laid", x.mark(0, false), true);
        Check.tell(x, "bend");
        Check.night(x, "wheel ann 1;");
        Check.night(x, "wheel ann 1;");
        Check.tell(x, "abc");
        x.see(2, 20, true);
        Check.minutes(x, 30);
        c.due("33: back", x.mark(0, true), true);
        c.due("33: night and minute", x.count(3) * 10 + x.count(4), 12);
        c.due("33: stuck", x.guest(0, 5), 7);
        c.due("33: cooked, tasted", x.guest(2, 7) * 100 + x.count(7), 112);
        c.due("33: lines", x.count(9), 2);
        c.due("33: seen", x.count(10), 1);
        c.due("33: nothing can be undone", x.count(11), 0);
        c.due("33: nor is", x.undo(), false);
        c.due("33: the tape stays", x.count(12), 3);
        Check.minutes(x, 2);
        c.due("33: another", x.mark(3, false), true);
        c.due("33: the first again", x.mark(0, true), true);
        c.due("33: minute 2", x.count(4), 2);
        c.due("33: the other", x.mark(3, true), true);
        c.due("33: minute 4", x.count(4), 4);
        c.due("33: laid over", x.mark(0, false), true);
        Check.minutes(x, 1);
        x.mark(0, true);
        c.due("33: minute 4 again", x.count(4), 4);
        x = three();
        Check.night(x, "wheel cat 1;minute;minute;minute;run ben 1;hire ben cat;");
        x.see(2, 10, true);
        x.mark(1, false);
        Check.night(x, "hire ann ben;hire cat ben;run ann 2;minute;minute;minute;minute;");
        x.see(0, 0, true);
        c.due("33: lines told since", x.judged(0), 1);
        c.due("33: seen since", x.who(), 0);
        x.mark(1, true);
        c.due("33: the lines gone back to", x.judged(0), 4);
        c.due("33: what was seen", x.who(), 2);
        x = three();
        Check.night(x, "wheel cat 60;minute;minute;minute;minute;minute;minute;");
        x.mark(0, false);
        Check.night(x, "wheel cat 1;");
        x.mark(0, true);
        c.due("33: by how long a wheel", x.judged(1), NONE);
        x = three();
        x.mark(2, false);
        x.see(2, 10, true);
        x.mark(1, false);
        x.mark(2, true);
        x.see(5, 0, false);
        x.mark(1, true);
        c.due("33: another sight in its place", x.who(), 2);
    }

    private void count() {
        LastCook x = Check.at(THREE + "bend 12;hour 9;snow 4 0 6;tastes skill+1;");
        Check.minutes(x, 5);
        Check.night(x, "minute;");
        x.see(0, 0, false);
        Check.tell(x, "abc d");
        int[] due = {3, 12, 9, 0, 5, 6, 5, 0, 0, 1, 1, 5, 5};
        for (int what = 0; what < due.length; what++) {
            c.due("34: count(" + what + ")", x.count(what), due[what]);
        }
        c.due("34: 13", x.count(13), -1000);
        c.due("34: -1", x.count(-1), -1000);
    }
}
