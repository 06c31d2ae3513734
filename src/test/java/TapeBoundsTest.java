/** Each sentence that bounds the tape and its tokens: at the bound, one below it, one above it. */
public final class TapeBoundsTest {
    private static final long BLANKS = 0x2020202020202020L;

    private final Check c;

    private TapeBoundsTest(String[] args) {
        c = new Check(args);
    }

    public static void main(String[] args) {
        TapeBoundsTest t = new TapeBoundsTest(args);
        t.thousandSigns();
        t.beyondThousand();
        t.signsThatCount();
        t.highestFirst();
        t.upTo24();
        t.takenByReading();
        t.asLongAsCanBe();
        t.blanks();
        t.words();
        t.numbers();
        t.letterBehindNumber();
        t.signs();
        t.allElse();
        t.longerAtFirstSign();
        t.c.end();
    }

    private int fault(String text) {
        return Check.supper(new LastCook(), text);
    }

    private static LastCook filled(int signs) {
        LastCook x = new LastCook();
        for (int i = 0; i < signs / 24; i++) {
            x.feed(BLANKS, BLANKS, BLANKS);
        }
        for (int i = 0; i < signs % 24; i++) {
            x.feed(0x20L, 0, 0);
        }
        return x;
    }

    private void thousandSigns() {
        c.sentence("The TAPE has at most 1,000 signs");
        LastCook x = filled(998);
        c.due("the 999th", x.feed(0x3BL, 0, 0), 999);
        c.due("the 1000th", x.feed(0, 0x3BL, 0), 1000);
        c.due("a 1001st", x.feed(0, 0, 0x3BL), 1000);
        c.due("count of the tape", x.count(12), 1000);
        c.due("the fault is the 999th", x.supper(), 1 + 16 * 998);
        String whole = "bend 7;" + Check.times(993, " ");
        x = new LastCook();
        c.due("1000 signs", Check.tell(x, whole), 1000);
        c.due("all are read", x.supper() * 100 + x.count(1), 7);
        x = new LastCook();
        Check.tell(x, Check.times(994, " ") + "bend 7;");
        c.due("the 1001st, ;, is not read: the end is at 1000", x.supper(), 1 + 16 * 1000);
        x = new LastCook();
        Check.tell(x, Check.times(993, " ") + "bend 7;");
        c.due("the 1000th, ;, is read", x.supper(), 0);
        x = new LastCook();
        Check.tell(x, Check.times(995, " ") + "bend 7;");
        c.due("a number that is cut is not there", x.supper(), 1 + 16 * 1000);
        c.due("a full tape is empty then", x.feed(0x3BL, 0, 0), 1);
    }

    private void beyondThousand() {
        c.sentence("and what is beyond 1,000, are left out");
        LastCook x = filled(976);
        c.due("24 more make 1000", x.feed(BLANKS, BLANKS, BLANKS), 1000);
        x = filled(977);
        c.due("23 of 24", x.feed(BLANKS, BLANKS, 0x202020202020203BL), 1000);
        c.due("the 24th was left out", x.supper(), 0);
        x = filled(977);
        c.due("the 23rd is there", x.feed(BLANKS, BLANKS, 0x2020202020203B20L), 1000);
        c.due("and is read", x.supper(), 1 + 16 * 999);
        x = filled(1000);
        c.due("nothing fits", x.feed(BLANKS, BLANKS, BLANKS), 1000);
        c.due("nothing comes", x.feed(0, 0, 0), 1000);
        x = filled(999);
        c.due("what is no sign takes no place", x.feed(0x0001020300000000L, 0xFFL, 0x7F3BL), 1000);
        c.due("the last is ;", x.supper(), 1 + 16 * 999);
    }

    private void signsThatCount() {
        c.sentence("others than 10 and 32 .. 126");
        for (int sign = 0; sign < 256; sign++) {
            boolean counts = sign == 10 || sign >= 32 && sign <= 126;
            LastCook x = new LastCook();
            c.due("sign " + sign + " lowest in c", x.feed(0, 0, sign), counts ? 1 : 0);
            c.due("sign " + sign + " highest in a", x.feed((long) sign << 56, 0, 0), counts ? 2 : 0);
        }
    }

    private void highestFirst() {
        c.sentence("the bytes of a, b, c, of each the highest first");
        LastCook x = new LastCook();
        c.due("bend 12; over a and b", x.feed(0x62656E6420313220L, 0x3B00000000000000L, 0), 9);
        c.due("read", x.supper() * 100 + x.count(1), 12);
        c.due("one sign in each", x.feed(0x68L, 0x6FL, 0x7572203132333BL), 9);
        c.due("hour 123", x.supper() * 1000 + x.count(2), 123);
        c.due("a number over b and c", x.feed(0x686F757220L, 0x31L, 0x3700003BL), 8);
        c.due("hour 17", x.supper() * 1000 + x.count(2), 17);
    }

    private void upTo24() {
        c.sentence("Up to 24 signs come behind the TAPE");
        LastCook x = new LastCook();
        c.due("none", x.feed(0, 0, 0), 0);
        c.due("24", x.feed(BLANKS, BLANKS, BLANKS), 24);
        c.due("23 more", x.feed(BLANKS, BLANKS - 0x20, BLANKS), 47);
        c.due("one more", x.feed(0, 0x2000000000L, 0), 48);
    }

    private void takenByReading() {
        c.sentence("what reads it takes it: it is empty then");
        LastCook x = new LastCook();
        Check.tell(x, "bend 9;");
        c.due("a supper", x.supper(), 0);
        c.due("empty", x.count(12), 0);
        Check.tell(x, "bend 0;");
        c.due("a fault of a supper", x.supper(), 4 + 16 * 5);
        c.due("empty, too", x.count(12), 0);
        c.due("bend stays", x.count(1), 9);
        Check.tell(x, "minute;");
        c.due("a night", x.night(), 0);
        c.due("empty then", x.count(12), 0);
        Check.tell(x, "minute");
        c.due("a fault of a night", x.night(), 1 + 16 * 6);
        c.due("empty yet", x.count(12), 0);
        c.due("nothing of it comes again", Check.tell(x, "minute;minute;"), 14);
        c.due("two lines", x.night() * 10 + x.count(9), 2);
        x.minute();
        x.undo();
        Check.tell(x, "ab");
        x.minute();
        x.undo();
        c.due("nothing else takes it", x.count(12), 2);
    }

    private void asLongAsCanBe() {
        c.sentence("TOKENS, each as long as can be");
        c.due("bends is not bend and s", fault("bends 5;"), 1);
        c.due("guesta is not guest and a", fault("guesta plain off 1 pace 1 cooks 1;"), 1);
        c.due("51 is not 5 and 1", fault("bend 51;"), 4 + 16 * 5);
        c.due("0005 is one number", fault("bend 0005;"), 0);
        c.due("00005 is no number", fault("bend 00005;"), 1 + 16 * 5);
        c.due("snow 99 is not 9 and 9", fault("snow 99;"), 4 + 16 * 5);
        c.due("notskill is not not and skill", fault("tastes notskill;"), 1 + 16 * 7);
        c.due("not(skill) is not, (, skill", fault("tastes not(skill);"), 0);
    }

    private void blanks() {
        c.sentence("blanks (10, 32) between where one likes");
        c.due("none where none is needed", fault("guest a plain off1pace1cooks1;bend1;hour1;snow1 2;tastes(skill)+1;"), 0);
        c.due("many", fault(" \n guest\n\na  plain\noff\n1 pace  1 cooks\n1 ; \n "), 0);
        c.due("blanks alone", fault(" \n \n"), 0);
        c.due("within a word", fault("be nd 5;"), 1);
        c.due("within a number", fault("bend 1 2;"), 1 + 16 * 7);
        c.due("blanks count for the place", fault("\n\n  bend\n0;"), 4 + 16 * 9);
        LastCook x = new LastCook();
        c.due("9 is not even a sign of the tape", x.feed(0x62656E640935093BL, 0, 0), 6);
        c.due("bend5; then", x.supper() * 100 + x.count(1), 5);
    }

    private void words() {
        c.sentence("WORDS (letters a .. z, 8 at most)");
        for (int letters = 1; letters <= 12; letters++) {
            String name = "abcdefghijkl".substring(0, letters);
            int due = letters <= 8 ? 0 : 1 + 16 * 6;
            c.due("a name of " + letters, fault("guest " + name + " plain off 1 pace 1 cooks 1;"), due);
        }
        c.due("a .. z", fault("guest azazazaz plain off 1 pace 1 cooks 1;"), 0);
        c.due("one below a", fault("guest a` plain off 1 pace 1 cooks 1;"), 1 + 16 * 7);
        c.due("one above z", fault("guest z{ plain off 1 pace 1 cooks 1;"), 1 + 16 * 7);
        c.due("a capital", fault("guest aB plain off 1 pace 1 cooks 1;"), 1 + 16 * 7);
        c.due("a digit ends it", fault("guest a1 plain off 1 pace 1 cooks 1;"), 1 + 16 * 7);
        c.due("told apart by the eighth", fault(Check.guest("aaaaaaaa", "plain", 1, 1, 1) + Check.guest("aaaaaaab", "plain", 1, 1, 1)), 0);
        c.due("told apart by the first", fault(Check.guest("zaaaaaaa", "plain", 1, 1, 1) + Check.guest("aaaaaaaa", "plain", 1, 1, 1)), 0);
        c.due("told apart by how long", fault(Check.guest("aaaaaaa", "plain", 1, 1, 1) + Check.guest("aaaaaaaa", "plain", 1, 1, 1)), 0);
    }

    private void numbers() {
        c.sentence("NUMBERS (1 to 4 digits");
        c.due("one", fault("tastes 0;"), 0);
        c.due("three", fault("tastes 999;"), 0);
        c.due("four", fault("tastes 9999;"), 0);
        c.due("five", fault("tastes 10000;"), 1 + 16 * 7);
        c.due("five of a small one", fault("tastes 00000;"), 1 + 16 * 7);
        c.due("very many", fault("tastes " + Check.times(300, "9") + ";"), 1 + 16 * 7);
        c.due("zeros ahead", fault("bend 0050;"), 0);
        c.due("one below 0, /", fault("tastes /;"), 1 + 16 * 7);
        c.due("one above 9, :", fault("tastes 9:;"), 1 + 16 * 8);
        c.due("no digit at all", fault("bend ;"), 1 + 16 * 5);
    }

    private void letterBehindNumber() {
        c.sentence("a letter may stand right behind");
        c.due("off 5pace", fault("guest a plain off 5pace 5cooks 5;"), 0);
        c.due("9999and", fault("tastes 9999and 1or 0;"), 0);
        c.due("a word that can't stand there, behind four digits", fault("bend 0005x;"), 1 + 16 * 9);
        c.due("behind five digits the number is wrong", fault("bend 00005x;"), 1 + 16 * 5);
    }

    private void signs() {
        c.sentence("the signs ( ) < = + - * ;");
        String[] right = {"(1)", "1<1", "1=1", "1+1", "1-1", "1*1"};
        for (String law : right) {
            c.due(law, fault("tastes " + law + ";"), 0);
        }
        c.due("( where none can stand", fault("bend ("), 1 + 16 * 5);
        c.due("; where none can stand", fault("bend ;"), 1 + 16 * 5);
        c.due("== is two signs", fault("tastes 1==1;"), 1 + 16 * 9);
        c.due("<= is two signs", fault("tastes 1<=1;"), 1 + 16 * 9);
    }

    private void allElse() {
        c.sentence("All else");
        for (char sign = 33; sign <= 126; sign++) {
            boolean joins = "<=+-*".indexOf(sign) >= 0;
            boolean digit = sign >= '0' && sign <= '9';
            int due = joins || digit ? 0 : sign == ';' ? 1 + 16 * 10 : 1 + 16 * 8;
            String text = digit ? "tastes 1" + sign + ";" : "tastes 1" + sign + " 1;";
            c.due(text, fault(text), due);
            boolean begins = "(".indexOf(sign) >= 0;
            text = "tastes " + sign + (begins ? "1);" : ";");
            c.due(text, fault(text), begins || digit ? 0 : 1 + 16 * 7);
        }
    }

    private void longerAtFirstSign() {
        c.sentence("(a longer WORD or NUMBER, too, at its first sign) is none");
        c.due("a word of nine", fault("  tastesxxx"), 1 + 16 * 2);
        c.due("a word of nine that begins as another", fault("bend 5;guestguest a"), 1 + 16 * 7);
        c.due("a number of five where a number stands", fault("hour 00030;"), 1 + 16 * 5);
        c.due("in snow", fault("snow 1 00002;"), 1 + 16 * 7);
        c.due("in a law", fault("tastes skill+123456;"), 1 + 16 * 13);
        LastCook x = Check.at(Check.guest("abcdefgh", "plain", 5, 1, 1));
        c.due("a name of eight in a night", Check.night(x, "wheel abcdefgh 5;"), 0);
        c.due("and of nine", Check.night(x, "wheel abcdefghi 5;"), 1 + 16 * 6);
        for (char sign : "()<=+-*;".toCharArray()) {
            String number = "000" + (int) sign;
            c.due(number + " is not " + sign + ", as a PART", fault("tastes " + number + " 1);"), 1 + 16 * 7);
            c.due(number + " is not " + sign + ", behind one", fault("tastes (1 " + number + " 1;"), 1 + 16 * 10);
            c.due(number + " is not " + sign + ", behind a line", fault("bend 9 " + number), 1 + 16 * 7);
        }
    }
}
