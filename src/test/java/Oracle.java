import java.util.ArrayList;
import java.util.HashMap;
import java.util.List;
import java.util.Map;
import java.util.Set;

/** The document once more, in its plainest and slowest form, to be compared with LastCook. */
final class Oracle {
    static final Set<String> RESERVED = Set.of("guest", "off", "pace", "cooks", "bend", "hour", "snow", "tastes", "wheel",
            "run", "hire", "minute", "plain", "doctor", "shy", "great", "not", "and", "or");
    static final List<String> KINDS = List.of("plain", "doctor", "shy", "great");
    static final List<String> FACTS = List.of("skill", "late", "guests", "night");

    static final class Fault extends RuntimeException {
        private static final long serialVersionUID = 1;
        final int code;

        Fault(int kind, int place) {
            code = kind + 16 * place;
        }
    }

    record Token(String text, int place, char sort) {
    }

    /** sort: w word, n number, s sign, x none, e end. */
    static List<Token> tokens(String text) {
        List<Token> all = new ArrayList<>();
        int i = 0;
        while (i < text.length()) {
            char c = text.charAt(i);
            int j = i;
            if (c == ' ' || c == '\n') {
                i++;
                continue;
            }
            if (c >= 'a' && c <= 'z') {
                while (j < text.length() && text.charAt(j) >= 'a' && text.charAt(j) <= 'z') {
                    j++;
                }
                all.add(new Token(text.substring(i, j), i, j - i > 8 ? 'x' : 'w'));
            } else if (c >= '0' && c <= '9') {
                while (j < text.length() && text.charAt(j) >= '0' && text.charAt(j) <= '9') {
                    j++;
                }
                all.add(new Token(text.substring(i, j), i, j - i > 4 ? 'x' : 'n'));
            } else {
                j = i + 1;
                all.add(new Token(text.substring(i, j), i, "()<=+-*;".indexOf(c) >= 0 ? 's' : 'x'));
            }
            i = j;
        }
        all.add(new Token("", text.length(), 'e'));
        return all;
    }

    interface Term {
        int value(Map<String, Integer> facts);
    }

    static final class Supper {
        final List<String> names = new ArrayList<>();
        final List<int[]> guests = new ArrayList<>();
        int bend = 10;
        int hour = 30;
        List<Integer> snow = List.of(0);
        Term tastes = facts -> facts.get("skill");

        int size() {
            return guests.size();
        }
    }

    static final class State implements Cloneable {
        int[] off;
        int[] pace;
        int[] stuck;
        int[] hirer;
        int[] cooked;
        List<Integer> order = new ArrayList<>();
        List<Integer> orderMinutes = new ArrayList<>();
        int night;
        int minute;
        int tasted;
        List<Integer> cooks = new ArrayList<>();
        /** The order and the minutes of the night that was eaten by the last minute. */
        List<Integer> eatenOrder = List.of();
        List<Integer> eatenMinutes = List.of();

        State copy() {
            State s = new State();
            s.off = off.clone();
            s.pace = pace.clone();
            s.stuck = stuck.clone();
            s.hirer = hirer.clone();
            s.cooked = cooked.clone();
            s.order = new ArrayList<>(order);
            s.orderMinutes = new ArrayList<>(orderMinutes);
            s.night = night;
            s.minute = minute;
            s.tasted = tasted;
            s.cooks = new ArrayList<>(cooks);
            return s;
        }
    }

    record Seen(int minutes, int yards, boolean near) {
    }

    record Mark(State state, List<String[]> lines, List<Seen> seen) {
    }

    Supper told = new Supper();
    State now = fresh();
    StringBuilder tape = new StringBuilder();
    List<String[]> lines = new ArrayList<>();
    List<Seen> seen = new ArrayList<>();
    List<State> past = new ArrayList<>();
    Map<Integer, Mark> marks = new HashMap<>();

    private List<Token> read;
    private int at;

    State fresh() {
        State s = new State();
        s.cooked = new int[told.size()];
        freshNight(s);
        return s;
    }

    void freshNight(State s) {
        int n = told.size();
        s.off = new int[n];
        s.pace = new int[n];
        s.stuck = new int[n];
        s.hirer = new int[n];
        for (int i = 0; i < n; i++) {
            s.off[i] = told.guests.get(i)[1];
            s.pace[i] = told.guests.get(i)[2];
            s.hirer[i] = -1;
        }
        s.order.clear();
        s.orderMinutes.clear();
        s.minute = 0;
    }

    int feed(long a, long b, long c) {
        for (long l : new long[] {a, b, c}) {
            for (int i = 7; i >= 0; i--) {
                int sign = (int) (l >> 8 * i) & 255;
                if ((sign == 10 || sign >= 32 && sign <= 126) && tape.length() < 1000) {
                    tape.append((char) sign);
                }
            }
        }
        return tape.length();
    }

    private Token here() {
        return read.get(at);
    }

    private void fail(int kind) {
        throw new Fault(kind, here().place);
    }

    private void begin() {
        read = tokens(tape.toString());
        at = 0;
        tape.setLength(0);
    }

    private boolean is(String text) {
        return here().sort != 'x' && here().sort != 'e' && here().text.equals(text);
    }

    private void take(String text) {
        if (!is(text)) {
            fail(1);
        }
        at++;
    }

    private int number(int least, int most) {
        if (here().sort != 'n') {
            fail(1);
        }
        int value = Integer.parseInt(here().text);
        if (value < least || value > most) {
            fail(4);
        }
        return value;
    }

    private int takeNumber(int least, int most) {
        int value = number(least, most);
        at++;
        return value;
    }

    private String name() {
        if (here().sort != 'w' || RESERVED.contains(here().text)) {
            fail(1);
        }
        return here().text;
    }

    int supper() {
        begin();
        Supper s = new Supper();
        List<String> once = new ArrayList<>();
        try {
            while (here().sort != 'e') {
                String word = here().text;
                if (here().sort != 'w' || !List.of("guest", "bend", "hour", "snow", "tastes").contains(word)) {
                    fail(1);
                }
                if (once.contains(word)) {
                    fail(3);
                }
                if (word.equals("guest") && s.size() == 6) {
                    fail(5);
                }
                at++;
                switch (word) {
                    case "guest" -> supperGuest(s);
                    case "bend" -> s.bend = takeNumber(1, 50);
                    case "hour" -> s.hour = takeNumber(1, 200);
                    case "snow" -> supperSnow(s);
                    default -> s.tastes = expression(0);
                }
                if (!word.equals("guest")) {
                    once.add(word);
                }
                take(";");
            }
        } catch (Fault f) {
            return f.code;
        }
        told = s;
        now = fresh();
        lines = new ArrayList<>();
        seen = new ArrayList<>();
        past = new ArrayList<>();
        marks = new HashMap<>();
        return 0;
    }

    private void supperGuest(Supper s) {
        String name = name();
        if (s.names.contains(name)) {
            fail(3);
        }
        at++;
        int kind = here().sort == 'w' ? KINDS.indexOf(here().text) : -1;
        if (kind < 0) {
            fail(1);
        }
        at++;
        take("off");
        int off = takeNumber(1, 300);
        take("pace");
        int pace = takeNumber(1, 30);
        take("cooks");
        int cooks = takeNumber(0, 20);
        s.names.add(name);
        s.guests.add(new int[] {kind, off, pace, cooks});
    }

    private void supperSnow(Supper s) {
        List<Integer> snow = new ArrayList<>();
        do {
            int n = number(0, 9);
            if (snow.size() == 12) {
                fail(5);
            }
            at++;
            snow.add(n);
        } while (here().sort == 'n');
        s.snow = snow;
    }

    private Term expression(int within) {
        Term left = test(within);
        while (is("and") || is("or")) {
            boolean and = is("and");
            at++;
            Term a = left;
            Term b = test(within);
            left = and ? f -> a.value(f) != 0 & b.value(f) != 0 ? 1 : 0 : f -> a.value(f) != 0 | b.value(f) != 0 ? 1 : 0;
        }
        return left;
    }

    private Term test(int within) {
        Term a = sum(within);
        if (is("<") || is("=")) {
            boolean less = is("<");
            at++;
            Term b = sum(within);
            return less ? f -> a.value(f) < b.value(f) ? 1 : 0 : f -> a.value(f) == b.value(f) ? 1 : 0;
        }
        return a;
    }

    private Term sum(int within) {
        Term left = product(within);
        while (is("+") || is("-")) {
            boolean plus = is("+");
            at++;
            Term a = left;
            Term b = product(within);
            left = plus ? f -> a.value(f) + b.value(f) : f -> a.value(f) - b.value(f);
        }
        return left;
    }

    private Term product(int within) {
        Term left = part(within);
        while (is("*")) {
            at++;
            Term a = left;
            Term b = part(within);
            left = f -> a.value(f) * b.value(f);
        }
        return left;
    }

    private Term part(int within) {
        boolean fact = here().sort == 'w' && FACTS.contains(here().text);
        if (!fact && here().sort != 'n' && !is("not") && !is("(")) {
            fail(1);
        }
        if (within == 5) {
            fail(5);
        }
        String text = here().text;
        char sort = here().sort;
        at++;
        if (fact) {
            return f -> f.get(text);
        }
        if (sort == 'n') {
            return f -> Integer.parseInt(text);
        }
        if (text.equals("not")) {
            Term a = part(within + 1);
            return f -> a.value(f) == 0 ? 1 : 0;
        }
        Term a = expression(within + 1);
        take(")");
        return a;
    }

    int night() {
        begin();
        List<String[]> l = new ArrayList<>();
        try {
            while (here().sort != 'e') {
                String word = here().text;
                if (here().sort != 'w' || !List.of("wheel", "run", "hire", "minute").contains(word)) {
                    fail(1);
                }
                if (l.size() == 40) {
                    fail(5);
                }
                at++;
                String[] line = {word, "", ""};
                if (!word.equals("minute")) {
                    line[1] = known();
                    at++;
                    if (word.equals("hire")) {
                        line[2] = known();
                        if (line[2].equals(line[1])) {
                            fail(3);
                        }
                        at++;
                    } else {
                        line[2] = "" + takeNumber(1, word.equals("wheel") ? 60 : 9);
                    }
                }
                take(";");
                l.add(line);
            }
        } catch (Fault f) {
            return f.code;
        }
        lines = l;
        return 0;
    }

    private String known() {
        String name = name();
        if (!told.names.contains(name)) {
            fail(2);
        }
        return name;
    }

    boolean isGuest(int g) {
        return g >= 0 && g < told.size();
    }

    boolean in(State s, int g) {
        return s.order.contains(g);
    }

    boolean doWheel(State s, int g, int minutes) {
        if (in(s, g)) {
            return false;
        }
        s.stuck[g] = Math.min(60, s.stuck[g] + minutes);
        return true;
    }

    boolean doRun(State s, int g, int more) {
        if (in(s, g)) {
            return false;
        }
        s.pace[g] = Math.min(40, s.pace[g] + more);
        return true;
    }

    boolean doHire(State s, int g, int o) {
        if (g == o || in(s, g) || in(s, o) || s.hirer[o] >= 0) {
            return false;
        }
        s.hirer[o] = g;
        return true;
    }

    boolean holds(State s, List<Integer> ins, int g) {
        int kind = told.guests.get(g)[0];
        if (kind == 2 && ins.isEmpty() && told.size() > 1) {
            return true;
        }
        if (kind == 3) {
            for (int o = 0; o < told.size(); o++) {
                if (told.guests.get(o)[0] != 3 && !ins.contains(o)) {
                    return true;
                }
            }
        }
        return s.hirer[g] >= 0 && !ins.contains(s.hirer[g]);
    }

    int snowNow(State s) {
        return told.snow.get(s.minute % told.snow.size());
    }

    int doMinute(State s) {
        return doMinute(s, snowNow(s));
    }

    int doMinute(State s, int snow) {
        List<Integer> ins = List.copyOf(s.order);
        s.eatenOrder = List.of();
        for (int g = 0; g < told.size(); g++) {
            if (ins.contains(g)) {
                continue;
            }
            if (s.stuck[g] > 0) {
                s.stuck[g]--;
                continue;
            }
            int step = s.pace[g] - snow < 1 ? 1 : s.pace[g] - snow;
            for (int yard = 0; yard < step && s.off[g] > 0; yard++) {
                if (!(holds(s, ins, g) && s.off[g] <= told.bend)) {
                    s.off[g]--;
                }
            }
            if (s.off[g] == 0) {
                s.order.add(g);
                s.orderMinutes.add(s.minute);
            }
        }
        if (told.size() == 0 || s.order.size() < told.size()) {
            s.minute++;
            return -1;
        }
        int cook = s.order.get(s.order.size() - 1);
        for (int g : s.order) {
            boolean laterCook = told.guests.get(g)[0] != 1;
            if (laterCook) {
                cook = g;
            }
        }
        if (s.order.stream().allMatch(g -> told.guests.get(g)[0] == 1)) {
            cook = s.order.get(s.order.size() - 1);
        }
        s.eatenOrder = List.copyOf(s.order);
        s.eatenMinutes = List.copyOf(s.orderMinutes);
        Map<String, Integer> facts = Map.of("skill", told.guests.get(cook)[3], "late",
                Math.max(0, s.minute + 1 - told.hour), "guests", told.size(), "night", s.night);
        s.tasted += Math.max(-99, Math.min(99, told.tastes.value(facts)));
        s.cooked[cook]++;
        s.cooks.add(cook);
        s.night++;
        freshNight(s);
        return cook;
    }

    void keep() {
        past.add(now.copy());
        if (past.size() > 16) {
            past.remove(0);
        }
    }

    int guest(int g, int what) {
        if (!isGuest(g)) {
            return -2;
        }
        return switch (what) {
            case 0 -> told.guests.get(g)[0];
            case 1 -> now.off[g];
            case 2 -> now.pace[g];
            case 3 -> told.guests.get(g)[3];
            case 4 -> now.order.indexOf(g);
            case 5 -> now.stuck[g];
            case 6 -> now.hirer[g];
            case 7 -> now.cooked[g];
            default -> -2;
        };
    }

    int wheel(int g, int minutes) {
        if (!isGuest(g) || in(now, g) || minutes < 1 || minutes > 60) {
            return -1;
        }
        keep();
        doWheel(now, g, minutes);
        return now.stuck[g];
    }

    int run(int g, int more) {
        if (!isGuest(g) || in(now, g) || more < 1 || more > 9) {
            return -1;
        }
        keep();
        doRun(now, g, more);
        return now.pace[g];
    }

    boolean hire(int g, int o) {
        if (!isGuest(g) || !isGuest(o) || !doHire(now.copy(), g, o)) {
            return false;
        }
        keep();
        return doHire(now, g, o);
    }

    int minute() {
        keep();
        return doMinute(now);
    }

    boolean undo() {
        if (past.isEmpty()) {
            return false;
        }
        now = past.remove(past.size() - 1);
        return true;
    }

    int judged(int what) {
        State s = fresh();
        int failed = -1;
        int eaten = -1;
        for (int i = 0; i < lines.size(); i++) {
            String[] l = lines.get(i);
            int g = told.names.indexOf(l[1]);
            boolean can = switch (l[0]) {
                case "wheel" -> doWheel(s, g, Integer.parseInt(l[2]));
                case "run" -> doRun(s, g, Integer.parseInt(l[2]));
                case "hire" -> doHire(s, g, told.names.indexOf(l[2]));
                default -> true;
            };
            if (l[0].equals("minute") && doMinute(s) >= 0 && eaten < 0) {
                eaten = i;
            }
            if (!can && failed < 0) {
                failed = i;
            }
        }
        return what == 0 ? failed : what == 1 ? eaten : what == 2 ? s.tasted : -1000;
    }

    int whenOf(State s) {
        for (int m = 1; m <= 400; m++) {
            if (doMinute(s) >= 0) {
                return m;
            }
        }
        return -1;
    }

    int cookOf(State s) {
        int before = s.cooks.size();
        return whenOf(s) < 0 ? -1 : s.cooks.get(before);
    }

    int tasteOf(State s) {
        int before = s.tasted;
        return whenOf(s) < 0 ? Integer.MIN_VALUE : s.tasted - before;
    }

    int when() {
        return whenOf(now.copy());
    }

    int cook() {
        return cookOf(now.copy());
    }

    /** This night's order and minutes, as far as they come in 400 minutes. */
    private List<List<Integer>> thisNight() {
        State s = now.copy();
        for (int m = 0; m < 400; m++) {
            if (doMinute(s) >= 0) {
                return List.of(s.eatenOrder, s.eatenMinutes);
            }
        }
        return List.of(s.order, s.orderMinutes);
    }

    int order(int i) {
        List<Integer> order = thisNight().get(0);
        return i < 0 || i >= order.size() ? -1 : order.get(i);
    }

    State ahead(int minutes) {
        State s = now.copy();
        for (int m = 0; m < minutes; m++) {
            doMinute(s);
        }
        return s;
    }

    int later(int g, int minutes) {
        return !isGuest(g) || minutes < 0 || minutes > 60 ? -1 : ahead(minutes).off[g];
    }

    int nights(int i) {
        if (i < 1 || i > 6) {
            return -1;
        }
        State s = now.copy();
        int before = s.cooks.size();
        for (int m = 0; m < 2400; m++) {
            doMinute(s);
            if (s.cooks.size() == before + i) {
                return s.cooks.get(before + i - 1);
            }
        }
        return -1;
    }

    int delay(int g) {
        if (!isGuest(g) || in(now, g)) {
            return -1;
        }
        for (int d = 0; d <= 60; d++) {
            State s = now.copy();
            doWheel(s, g, d);
            if (cookOf(s) == g) {
                return d;
            }
        }
        return -1;
    }

    int spare(int g) {
        if (!isGuest(g) || in(now, g) || cook() < 0) {
            return -1;
        }
        for (int r = 0; r <= 9; r++) {
            State s = now.copy();
            doRun(s, g, r);
            if (cookOf(s) != g) {
                return r;
            }
        }
        return -1;
    }

    int best() {
        int best = tasteOf(now.copy());
        int answer = -1;
        for (int g = 0; g < told.size(); g++) {
            for (int o = 0; o < told.size(); o++) {
                State s = now.copy();
                if (!doHire(s, g, o)) {
                    continue;
                }
                int taste = tasteOf(s);
                if (taste > best) {
                    best = taste;
                    answer = 8 * g + o;
                }
            }
        }
        return answer;
    }

    int excuse(int g) {
        if (!isGuest(g)) {
            return -1;
        }
        int bits = 0;
        for (int o = 0; o < told.size() && cook() == g; o++) {
            State s = now.copy();
            if (o != g && doWheel(s, o, 60) && cookOf(s) == o) {
                bits |= 1 << o;
            }
        }
        return bits;
    }

    int meets(int g, int o) {
        if (!isGuest(g) || !isGuest(o) || g == o) {
            return -1;
        }
        for (int m = 0; m <= 60; m++) {
            State s = ahead(m);
            if (!in(s, g) && !in(s, o) && s.off[g] == s.off[o]) {
                return m;
            }
        }
        return -1;
    }

    int roadBits(State s) {
        int bits = 0;
        for (int g = 0; g < told.size(); g++) {
            bits |= in(s, g) ? 0 : 1 << g;
        }
        return bits;
    }

    int near(int yards) {
        if (yards < 0 || yards > 300) {
            return -1;
        }
        int bits = 0;
        for (int g = 0; g < told.size(); g++) {
            bits |= !in(now, g) && now.off[g] <= yards ? 1 << g : 0;
        }
        return bits;
    }

    int with(int g) {
        List<List<Integer>> t = thisNight();
        int i = t.get(0).indexOf(g);
        if (i < 0) {
            return -1;
        }
        int others = -1;
        for (int m : t.get(1)) {
            others += m == t.get(1).get(i) ? 1 : 0;
        }
        return others;
    }

    int boy(int minutes) {
        return minutes < 0 || minutes > 60 ? -1 : Integer.bitCount(roadBits(ahead(minutes)));
    }

    int held() {
        int bits = 0;
        for (int g = 0; g < told.size(); g++) {
            bits |= !in(now, g) && now.off[g] <= told.bend && holds(now, now.order, g) ? 1 << g : 0;
        }
        return bits;
    }

    int fair() {
        int most = 0;
        int least = Integer.MAX_VALUE;
        for (int c : now.cooked) {
            most = Math.max(most, c);
            least = Math.min(least, c);
        }
        return told.size() == 0 ? 0 : most - least;
    }

    boolean see(int minutes, int yards, boolean near) {
        if (minutes < 0 || minutes > 60 || yards < 0 || yards > 300 || seen.size() == 8) {
            return false;
        }
        return seen.add(new Seen(minutes, yards, near));
    }

    int who() {
        int bits = roadBits(now);
        for (Seen s : seen) {
            State then = ahead(s.minutes);
            for (int g = 0; g < told.size(); g++) {
                if (s.near ? then.off[g] > s.yards : then.off[g] <= s.yards) {
                    bits &= ~(1 << g);
                }
            }
        }
        return bits;
    }

    int ask() {
        int who = who();
        int all = Integer.bitCount(who);
        int best = all;
        int answer = -1;
        for (int m = 0; m <= 60; m++) {
            State s = ahead(m);
            for (int y = 0; y <= 300; y++) {
                int close = 0;
                for (int g = 0; g < told.size(); g++) {
                    close += (who >> g & 1) == 1 && s.off[g] <= y ? 1 : 0;
                }
                int greater = Math.max(close, all - close);
                if (greater < best) {
                    best = greater;
                    answer = 1000 * m + y;
                }
            }
        }
        return answer;
    }

    int chance(int g, int minutes, int odds) {
        if (!isGuest(g) || in(now, g) || minutes < 1 || minutes > 6 || odds < 0 || odds > 10) {
            return -1;
        }
        long sum = weigh(now.copy(), g, minutes, odds);
        for (int i = minutes; i < 6; i++) {
            sum *= 10;
        }
        return (int) sum;
    }

    private long weigh(State s, int g, int minutes, int odds) {
        if (s.night > now.night) {
            long all = 1;
            for (int i = 0; i < minutes; i++) {
                all *= 10;
            }
            return all;
        }
        if (minutes == 0) {
            return in(s, g) ? 1 : 0;
        }
        State deep = s.copy();
        doMinute(deep, 9);
        State bare = s.copy();
        doMinute(bare, 0);
        return odds * weigh(deep, g, minutes - 1, odds) + (10 - odds) * weigh(bare, g, minutes - 1, odds);
    }

    int years(int seed, int minutes, int what) {
        if (seed < 0 || seed > 9999 || minutes < 1 || minutes > 99 || what < 0 || what > 2) {
            return -100000;
        }
        State s = now.copy();
        long[] g = {seed};
        int n = told.size();
        for (int m = 0; m < minutes; m++) {
            int d = n == 0 ? 7 : draw(g, 8);
            if (d == 0) {
                int a = draw(g, n);
                doWheel(s, a, draw(g, 20) + 1);
            } else if (d == 1) {
                int a = draw(g, n);
                doRun(s, a, draw(g, 9) + 1);
            } else if (d == 2) {
                int a = draw(g, n);
                doHire(s, a, draw(g, n));
            }
            doMinute(s);
        }
        return what == 0 ? s.night - now.night : what == 1 ? s.tasted - now.tasted : roadBits(s);
    }

    private static int draw(long[] g, int m) {
        g[0] = (g[0] * 1103515245L + 12345) % 2147483648L;
        return (int) (g[0] / 65536 % m);
    }

    boolean mark(int mark, boolean back) {
        if (mark < 0 || mark > 3 || back && !marks.containsKey(mark)) {
            return false;
        }
        if (back) {
            Mark m = marks.get(mark);
            now = m.state.copy();
            lines = new ArrayList<>(m.lines);
            seen = new ArrayList<>(m.seen);
            past.clear();
        } else {
            marks.put(mark, new Mark(now.copy(), new ArrayList<>(lines), new ArrayList<>(seen)));
        }
        return true;
    }

    int count(int what) {
        return switch (what) {
            case 0 -> told.size();
            case 1 -> told.bend;
            case 2 -> told.hour;
            case 3 -> now.night;
            case 4 -> now.minute;
            case 5 -> snowNow(now);
            case 6 -> roadBits(now);
            case 7 -> now.tasted;
            case 8 -> now.cooks.size();
            case 9 -> lines.size();
            case 10 -> seen.size();
            case 11 -> past.size();
            case 12 -> tape.length();
            default -> -1000;
        };
    }
}
