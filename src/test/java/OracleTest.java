import java.util.Random;

/** Long random runs of calls, every answer compared with the Oracle's. */
public final class OracleTest {
    private static final String[] NAMES = {"ann", "bob", "cy", "skill", "late", "guests", "night", "abcdefgh", "z", "off"};
    private static final String[] KINDS = {"plain", "plain", "doctor", "shy", "great"};
    private static final String[] JUNK = {";", "(", ")", "guest", "12345", "abcdefghi", "A", "?", "not", "and", "or", "<", "=",
        "300", "301", "0", "61", "plain", "off", "snow", "tastes", "skill", "bend", "hour", "minute", "wheel", "\n", "10x"};

    private final Random random;
    private final Check check;
    private final LastCook x = new LastCook();
    private final Oracle o = new Oracle();
    private final int run;
    private int calls;

    private OracleTest(int run, Check check) {
        this.run = run;
        this.check = check;
        random = new Random(run);
    }

    public static void main(String[] args) {
        Check check = new Check();
        for (int run = 0; run < 1500; run++) {
            new OracleTest(run, check).play();
        }
        check.end();
    }

    private void play() {
        for (int tries = 0; tries < 8 && o.told.size() < 2; tries++) {
            readSupper();
        }
        while (calls < 500) {
            step();
        }
    }

    private void due(String call, long got, long want) {
        calls++;
        check.due("run " + run + ": " + call, got, want);
    }

    private void due(String call, boolean got, boolean want) {
        due(call, got ? 1 : 0, want ? 1 : 0);
    }

    private int below(int m) {
        return random.nextInt(m);
    }

    /** Mostly one within, at times one just beside. */
    private int number(int least, int most) {
        int pick = below(20);
        return pick == 0 ? least - 1 : pick == 1 ? most + 1 : pick == 2 ? least : pick == 3 ? most
            : least + below(most - least + 1);
    }

    private int told(int least, int most) {
        return below(60) == 0 ? number(least, most) : below(5) == 0 ? most : least + below(most - least + 1);
    }

    private String name() {
        return NAMES[below(below(40) == 0 ? NAMES.length : NAMES.length - 1)];
    }

    private String expression(int within) {
        StringBuilder s = new StringBuilder();
        int parts = 1 + below(3);
        String[] operators = {"+", "-", "*", "<", "=", " and ", " or "};
        for (int i = 0; i < parts; i++) {
            s.append(i == 0 ? "" : operators[below(operators.length)]);
            s.append(part(within));
        }
        return s.toString();
    }

    private String part(int within) {
        int pick = within >= 5 && below(4) > 0 ? below(4) : below(8);
        switch (pick) {
            case 0: return "skill";
            case 1: return "" + below(40);
            case 2: return new String[] {"late", "guests", "night"}[below(3)];
            case 3: return below(10) == 0 ? "9999*9999*9999" : "skill";
            case 4:
            case 5: return " not " + part(within + 1);
            default: return "(" + expression(within + 1) + ")";
        }
    }

    private String supperText() {
        StringBuilder s = new StringBuilder();
        int guests = below(30) == 0 ? 7 : 1 + below(6);
        int far = below(4) == 0 ? 300 : 80;
        int bend = below(7);
        int hour = below(7);
        int snow = below(9);
        int tastes = below(8);
        for (int i = 0; i < guests; i++) {
            s.append("guest ").append(below(30) == 0 ? name() : NAMES[i]).append(' ').append(KINDS[below(KINDS.length)]);
            s.append(" off ").append(told(1, far)).append(" pace ").append(told(1, below(4) == 0 ? 4 : 30));
            s.append(" cooks ").append(told(0, 20)).append(below(3) == 0 ? " ;\n" : ";");
            if (i == bend || below(100) == 0) {
                s.append("bend ").append(told(1, 50)).append(';');
            }
            if (i == hour || below(100) == 0) {
                s.append("hour ").append(told(1, below(2) == 0 ? 20 : 200)).append(';');
            }
            if (i == snow || below(100) == 0) {
                s.append("snow");
                for (int n = 1 + below(below(20) == 0 ? 14 : 11); n > 0; n--) {
                    s.append(' ').append(told(0, 9));
                }
                s.append(';');
            }
            if (i == tastes || below(100) == 0) {
                s.append("tastes ").append(expression(0)).append(';');
            }
        }
        return s.toString();
    }

    private String nightText() {
        StringBuilder s = new StringBuilder();
        for (int lines = below(below(10) == 0 ? 45 : 25); lines > 0; lines--) {
            int guests = Math.max(1, o.told.size());
            String first = below(60) == 0 ? name() : NAMES[below(guests)];
            String second = below(60) == 0 ? name() : NAMES[below(guests)];
            switch (below(7)) {
                case 0: s.append("wheel ").append(first).append(' ').append(told(1, 60)).append(';'); break;
                case 1: s.append("run ").append(first).append(' ').append(told(1, 9)).append(';'); break;
                case 2:
                    if (!first.equals(second) || below(10) == 0) {
                        s.append("hire ").append(first).append(' ').append(second).append(';');
                    }
                    break;
                default: s.append("minute;"); break;
            }
        }
        return s.toString();
    }

    private String spoilt(String text) {
        if (below(5) > 0 || text.isEmpty()) {
            return text;
        }
        int at = below(text.length());
        switch (below(4)) {
            case 0: return text.substring(0, at);
            case 1: return text.substring(0, at) + text.substring(at + 1);
            case 2: return text.substring(0, at) + (char) (32 + below(95)) + text.substring(at + 1);
            default:
                int blank = text.indexOf(' ', at);
                return blank < 0 ? text : text.substring(0, blank) + " " + JUNK[below(JUNK.length)] + text.substring(blank);
        }
    }

    private void tell(String text) {
        StringBuilder s = new StringBuilder(text);
        int pad = (24 - s.length() % 24) % 24;
        for (int i = 0; i < pad; i++) {
            s.append((char) (below(3) == 0 ? 200 : below(9)));
        }
        for (int i = 0; i < s.length(); i += 24) {
            long[] l = new long[3];
            for (int j = 0; j < 24; j++) {
                l[j / 8] = l[j / 8] << 8 | s.charAt(i + j);
            }
            due("feed", x.feed(l[0], l[1], l[2]), o.feed(l[0], l[1], l[2]));
        }
    }

    private void readSupper() {
        String text = spoilt(supperText());
        tell(text);
        due("supper() of " + text, x.supper(), o.supper());
    }

    private void readNight() {
        String text = spoilt(nightText());
        tell(text);
        due("night() of " + text, x.night(), o.night());
        for (int i = -1; i <= 3; i++) {
            due("judged(" + i + ")", x.judged(i), o.judged(i));
        }
    }

    private void step() {
        int a = number(0, Math.max(0, o.told.size() - 1));
        int b = number(0, Math.max(0, o.told.size() - 1));
        int m = number(0, 60);
        int pick = below(100);
        if (pick < 2) {
            readSupper();
        } else if (pick < 5) {
            readNight();
        } else if (pick < 40) {
            due("minute()", x.minute(), o.minute());
        } else if (pick < 44) {
            int n = below(2) == 0 ? number(1, 60) : number(1, 6);
            due("wheel(" + a + ", " + n + ")", x.wheel(a, n), o.wheel(a, n));
        } else if (pick < 47) {
            int n = number(1, 9);
            due("run(" + a + ", " + n + ")", x.run(a, n), o.run(a, n));
        } else if (pick < 50) {
            due("hire(" + a + ", " + b + ")", x.hire(a, b), o.hire(a, b));
        } else if (pick < 53) {
            for (int n = below(4) == 0 ? 18 : 1 + below(3); n > 0; n--) {
                due("undo()", x.undo(), o.undo());
            }
        } else if (pick < 56) {
            int mark = number(0, 3);
            boolean back = below(3) == 0;
            due("mark(" + mark + ", " + back + ")", x.mark(mark, back), o.mark(mark, back));
        } else if (pick < 59) {
            int y = number(0, 300) / (1 + below(6));
            boolean near = below(2) == 0;
            due("see(" + m + ", " + y + ", " + near + ")", x.see(m, y, near), o.see(m, y, near));
        } else if (pick < 80) {
            askOne(pick - 59, a, b, m);
        } else {
            lookAround(a, m);
        }
    }

    private void askOne(int pick, int a, int b, int m) {
        int i = number(1, 6);
        int odds = number(0, 10);
        int seed = number(0, 9999);
        int minutes = number(1, 99);
        int what = number(0, 2);
        switch (pick) {
            case 0: due("when()", x.when(), o.when()); break;
            case 1: due("cook()", x.cook(), o.cook()); break;
            case 2: due("order(" + a + ")", x.order(a), o.order(a)); break;
            case 3: due("later(" + a + ", " + m + ")", x.later(a, m), o.later(a, m)); break;
            case 4: due("nights(" + i + ")", x.nights(i), o.nights(i)); break;
            case 5: due("delay(" + a + ")", x.delay(a), o.delay(a)); break;
            case 6: due("spare(" + a + ")", x.spare(a), o.spare(a)); break;
            case 7: due("best()", x.best(), o.best()); break;
            case 8: due("excuse(" + a + ")", x.excuse(a), o.excuse(a)); break;
            case 9: due("meets(" + a + ", " + b + ")", x.meets(a, b), o.meets(a, b)); break;
            case 10: due("with(" + a + ")", x.with(a), o.with(a)); break;
            case 11: due("boy(" + m + ")", x.boy(m), o.boy(m)); break;
            case 12: due("who()", x.who(), o.who()); break;
            case 13: due("ask()", x.ask(), o.ask()); break;
            case 14:
            case 15: due("chance(" + a + ", " + i + ", " + odds + ")", x.chance(a, i, odds), o.chance(a, i, odds)); break;
            case 16:
            case 17:
                due("years(" + seed + ", " + minutes + ", " + what + ")", x.years(seed, minutes, what), o.years(seed, minutes, what));
                break;
            case 18: due("held()", x.held(), o.held()); break;
            case 19: due("fair()", x.fair(), o.fair()); break;
            default: due("near(" + 5 * m + ")", x.near(5 * m), o.near(5 * m)); break;
        }
    }

    private void lookAround(int a, int m) {
        int what = number(0, 12);
        due("count(" + what + ")", x.count(what), o.count(what));
        int of = number(0, 7);
        due("guest(" + a + ", " + of + ")", x.guest(a, of), o.guest(a, of));
        due("count(6)", x.count(6), o.count(6));
        due("count(7)", x.count(7), o.count(7));
        due("held()", x.held(), o.held());
    }
}
