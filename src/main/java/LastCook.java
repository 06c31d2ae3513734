import java.util.NoSuchElementException;

/**
 * A parish supper that the last one to arrive has to cook: suppers and nights are told on a tape, the guests come
 * down the road minute by minute, and the calls ask who is where, who cooks and what could be done about it.
 *
 * Every row is made in the constructors and used again, so that no call makes an object.
 */
public final class LastCook {
    public static final int NONE = -1;

    private static final int MOST_GUESTS = 6;
    private static final int MOST_YARDS = 300;
    private static final int MOST_STUCK = 60;
    private static final int MOST_AHEAD = 60;
    private static final int MOST_RUN = 9;
    private static final int MOST_WAIT = 400;
    private static final int MOST_NIGHTS = 6;
    private static final int MOST_NIGHTS_WAIT = 2400;
    private static final int MOST_ODD_SNOW = 6;
    private static final int DEEP_SNOW = 9;
    private static final int WORSE_THAN_ALL = -1000;

    private final Tape tape;
    private Told told;
    private Told draft;
    private Lines lines;
    private Lines draftLines;
    private final Road now;
    private final Road trial;
    private final Sights sights;
    private final Past past;
    private final Mark[] marks;
    private long drawn;

    public LastCook() {
        tape = new Tape();
        told = new Told();
        draft = new Told();
        lines = new Lines();
        draftLines = new Lines();
        now = new Road();
        trial = new Road();
        sights = new Sights();
        past = new Past();
        marks = new Mark[4];
        for (int i = 0; i < marks.length; i++) {
            marks[i] = new Mark();
        }
    }

    public int feed(long a, long b, long c) {
        tape.put(a);
        tape.put(b);
        tape.put(c);
        return tape.length;
    }

    public int supper() {
        tape.rewind();
        boolean right = draft.read(tape);
        tape.clear();
        if (!right) {
            return tape.fault;
        }
        Told old = told;
        told = draft;
        draft = old;
        beginAnew();
        return 0;
    }

    private void beginAnew() {
        now.begin(told);
        lines.clear();
        sights.clear();
        past.clear();
        for (int i = 0; i < marks.length; i++) {
            marks[i].laid = false;
        }
    }

    public int night() {
        tape.rewind();
        boolean right = draftLines.read(tape, told);
        tape.clear();
        if (!right) {
            return tape.fault;
        }
        Lines old = lines;
        lines = draftLines;
        draftLines = old;
        return 0;
    }

    public int guest(int guest, int what) {
        if (!isGuest(guest)) {
            return -2;
        }
        switch (what) {
            case 0: return told.kinds[guest];
            case 1: return now.yards[guest];
            case 2: return now.paces[guest];
            case 3: return told.skills[guest];
            case 4: return now.places[guest];
            case 5: return now.stuck[guest];
            case 6: return now.hirers[guest];
            case 7: return now.cooked[guest];
            default: return -2;
        }
    }

    public int wheel(int guest, int minutes) {
        if (!isGuestOnRoad(guest) || !isWithin(minutes, 1, MOST_STUCK)) {
            return NONE;
        }
        past.keep(now);
        now.loseWheel(guest, minutes);
        return now.stuck[guest];
    }

    public int run(int guest, int more) {
        if (!isGuestOnRoad(guest) || !isWithin(more, 1, MOST_RUN)) {
            return NONE;
        }
        past.keep(now);
        now.quicken(guest, more);
        return now.paces[guest];
    }

    public boolean hire(int guest, int other) {
        if (!now.canEngage(guest, other)) {
            return false;
        }
        past.keep(now);
        now.engage(guest, other);
        return true;
    }

    public int minute() {
        past.keep(now);
        return now.pass(told);
    }

    public boolean undo() {
        return past.giveBack(now);
    }

    public int judged(int what) {
        if (!isWithin(what, 0, 2)) {
            return -1000;
        }
        trial.begin(told);
        int failed = NONE;
        int eaten = NONE;
        for (int i = 0; i < lines.size; i++) {
            if (!lines.play(i, trial, told) && failed == NONE) {
                failed = i;
            }
            if (trial.night > 0 && eaten == NONE) {
                eaten = i;
            }
        }
        return what == 0 ? failed : what == 1 ? eaten : trial.tasted;
    }

    public int when() {
        trial.copyFrom(now);
        return trial.goOn(told, MOST_WAIT);
    }

    public int cook() {
        trial.copyFrom(now);
        return nextCook();
    }

    public int order(int i) {
        if (!isGuest(i)) {
            return NONE;
        }
        trial.copyFrom(now);
        for (int gone = 0; gone < MOST_WAIT && trial.inside <= i; gone++) {
            trial.walkOn(told);
        }
        return trial.atPlace(i);
    }

    public int later(int guest, int minutes) {
        if (!isGuest(guest) || !isWithin(minutes, 0, MOST_AHEAD)) {
            return NONE;
        }
        lookAhead(minutes);
        return trial.yards[guest];
    }

    public int nights(int i) {
        if (!isWithin(i, 1, MOST_NIGHTS)) {
            return NONE;
        }
        trial.copyFrom(now);
        int left = MOST_NIGHTS_WAIT;
        for (int eaten = 0; eaten < i; eaten++) {
            int waited = trial.goOn(told, left);
            if (waited == NONE) {
                return NONE;
            }
            left -= waited;
        }
        return trial.lastCook;
    }

    public int delay(int guest) {
        if (!isGuestOnRoad(guest)) {
            return NONE;
        }
        for (int minutes = 0; minutes <= MOST_STUCK; minutes++) {
            trial.copyFrom(now);
            trial.loseWheel(guest, minutes);
            if (nextCook() == guest) {
                return minutes;
            }
        }
        return NONE;
    }

    public int spare(int guest) {
        if (!isGuestOnRoad(guest)) {
            return NONE;
        }
        for (int more = 0; more <= MOST_RUN; more++) {
            trial.copyFrom(now);
            trial.quicken(guest, more);
            int cooks = nextCook();
            // Running only makes it sooner, so this can be in the first round alone: it is not eaten as it is.
            if (cooks == NONE) {
                return NONE;
            }
            if (cooks != guest) {
                return more;
            }
        }
        return NONE;
    }

    public int best() {
        trial.copyFrom(now);
        int best = nextTaste();
        int answer = NONE;
        for (int guest = 0; guest < told.guests; guest++) {
            for (int other = 0; other < told.guests; other++) {
                trial.copyFrom(now);
                int taste = trial.engage(guest, other) ? nextTaste() : WORSE_THAN_ALL;
                if (taste > best) {
                    best = taste;
                    answer = 8 * guest + other;
                }
            }
        }
        return answer;
    }

    public int excuse(int guest) {
        if (!isGuest(guest)) {
            return NONE;
        }
        trial.copyFrom(now);
        if (nextCook() != guest) {
            return 0;
        }
        int bits = 0;
        for (int other = 0; other < told.guests; other++) {
            trial.copyFrom(now);
            if (other != guest && trial.loseWheel(other, MOST_STUCK) && nextCook() == other) {
                bits |= 1 << other;
            }
        }
        return bits;
    }

    public int meets(int guest, int other) {
        if (!isGuest(guest) || !isGuest(other) || guest == other) {
            return NONE;
        }
        trial.copyFrom(now);
        for (int minutes = 0; minutes <= MOST_AHEAD; minutes++) {
            if (trial.isOnRoad(guest) && trial.yards[guest] == trial.yards[other]) {
                return minutes;
            }
            trial.pass(told);
        }
        return NONE;
    }

    public int near(int yards) {
        if (!isWithin(yards, 0, MOST_YARDS)) {
            return NONE;
        }
        return now.onRoadWithin(told.guests, yards);
    }

    public int with(int guest) {
        if (!isGuest(guest)) {
            return NONE;
        }
        trial.copyFrom(now);
        for (int gone = 0; gone < MOST_WAIT && trial.isOnRoad(guest); gone++) {
            trial.walkOn(told);
        }
        return trial.isOnRoad(guest) ? NONE : trial.cameIn(trial.cameAt[guest]) - 1;
    }

    public int boy(int minutes) {
        if (!isWithin(minutes, 0, MOST_AHEAD)) {
            return NONE;
        }
        lookAhead(minutes);
        return told.guests - trial.inside;
    }

    public int held() {
        return now.holdingBack(told) & now.onRoadWithin(told.guests, told.bend);
    }

    public int fair() {
        if (told.guests == 0) {
            return 0;
        }
        int most = now.cooked[0];
        int least = most;
        for (int guest = 1; guest < told.guests; guest++) {
            most = Math.max(most, now.cooked[guest]);
            least = Math.min(least, now.cooked[guest]);
        }
        return most - least;
    }

    public boolean see(int minutes, int yards, boolean near) {
        if (!isWithin(minutes, 0, MOST_AHEAD) || !isWithin(yards, 0, MOST_YARDS)) {
            return false;
        }
        return sights.add(minutes, yards, near);
    }

    public int who() {
        return suspects();
    }

    public int ask() {
        int suspects = suspects();
        int all = Integer.bitCount(suspects);
        int least = all;
        int answer = NONE;
        trial.copyFrom(now);
        for (int minutes = 0; minutes <= MOST_AHEAD; minutes++) {
            // The parts change only at the yards where a suspect is, so no other yards need be tried.
            for (int guest = 0; guest < told.guests; guest++) {
                if ((suspects >> guest & 1) == 0) {
                    continue;
                }
                int nearer = trial.noFarther(suspects, trial.yards[guest]);
                int greater = Math.max(nearer, all - nearer);
                int question = 1000 * minutes + trial.yards[guest];
                if (greater < least || greater == least && question < answer) {
                    least = greater;
                    answer = question;
                }
            }
            trial.pass(told);
        }
        return answer;
    }

    public int chance(int guest, int minutes, int odds) {
        if (!isGuestOnRoad(guest) || !isWithin(minutes, 1, MOST_ODD_SNOW) || !isWithin(odds, 0, 10)) {
            return NONE;
        }
        int sum = 0;
        for (int snows = 0; snows < 1 << minutes; snows++) {
            if (isInBySnows(guest, minutes, snows)) {
                int deep = Integer.bitCount(snows);
                sum += power(odds, deep) * power(10 - odds, minutes - deep);
            }
        }
        return sum * power(10, MOST_ODD_SNOW - minutes);
    }

    public int rests(int lose, int goes, int waits, int what) throws NoSuchElementException {
        if (!isWithin(lose, 0, 9) || !isWithin(goes, 0, 9) || !isWithin(waits, 0, 9) || what < NONE) {
            throw new NoSuchElementException("no such latch");
        }
        int found = 0;
        for (int choices = 0; choices < 4; choices++) {
            int first = choices >> 1;
            int second = choices & 1;
            if (isContent(first, second, lose, goes, waits) && isContent(second, first, lose, goes, waits)) {
                if (found == what) {
                    return choices;
                }
                found++;
            }
        }
        if (what != NONE) {
            throw new NoSuchElementException("no such rest");
        }
        return found;
    }

    public int years(int seed, int minutes, int what) {
        if (!isWithin(seed, 0, 9999) || !isWithin(minutes, 1, 99) || !isWithin(what, 0, 2)) {
            return -100000;
        }
        trial.copyFrom(now);
        drawn = seed;
        for (int i = 0; i < minutes; i++) {
            drawDeed();
            trial.pass(told);
        }
        switch (what) {
            case 0: return trial.night - now.night;
            case 1: return trial.tasted - now.tasted;
            default: return trial.onRoadWithin(told.guests, MOST_YARDS);
        }
    }

    public boolean mark(int mark, boolean back) {
        if (!isWithin(mark, 0, marks.length - 1)) {
            return false;
        }
        Mark place = marks[mark];
        if (!back) {
            place.road.copyFrom(now);
            place.lines.copyFrom(lines);
            place.sights.copyFrom(sights);
            place.laid = true;
            return true;
        }
        if (!place.laid) {
            return false;
        }
        now.copyFrom(place.road);
        lines.copyFrom(place.lines);
        sights.copyFrom(place.sights);
        past.clear();
        return true;
    }

    public int count(int what) {
        switch (what) {
            case 0: return told.guests;
            case 1: return told.bend;
            case 2: return told.hour;
            case 3: return now.night;
            case 4: return now.minute;
            case 5: return told.snowAt(now.minute);
            case 6: return now.onRoadWithin(told.guests, MOST_YARDS);
            case 7: return now.tasted;
            // Every supper eaten begins the next night, and nights are numbered from 0.
            case 8: return now.night;
            case 9: return lines.size;
            case 10: return sights.size;
            case 11: return past.size;
            case 12: return tape.length;
            default: return -1000;
        }
    }

    private static boolean isWithin(int number, int least, int most) {
        return number >= least && number <= most;
    }

    private boolean isGuest(int guest) {
        return guest >= 0 && guest < told.guests;
    }

    private boolean isGuestOnRoad(int guest) {
        return isGuest(guest) && now.isOnRoad(guest);
    }

    private void lookAhead(int minutes) {
        trial.copyFrom(now);
        for (int i = 0; i < minutes; i++) {
            trial.pass(told);
        }
    }

    private int nextCook() {
        return trial.goOn(told, MOST_WAIT) == NONE ? NONE : trial.lastCook;
    }

    private int nextTaste() {
        int before = trial.tasted;
        return trial.goOn(told, MOST_WAIT) == NONE ? WORSE_THAN_ALL : trial.tasted - before;
    }

    private int suspects() {
        int suspects = now.onRoadWithin(told.guests, MOST_YARDS);
        int last = sights.lastMinute();
        trial.copyFrom(now);
        for (int minutes = 0; minutes <= last; minutes++) {
            suspects &= sights.fitting(minutes, trial);
            trial.pass(told);
        }
        return suspects;
    }

    private boolean isInBySnows(int guest, int minutes, int snows) {
        trial.copyFrom(now);
        boolean eaten = false;
        for (int i = 0; i < minutes; i++) {
            int snow = (snows >> i & 1) == 1 ? DEEP_SNOW : 0;
            eaten |= trial.passBySnow(told, snow) != NONE;
        }
        return eaten || !trial.isOnRoad(guest);
    }

    private static int power(int base, int times) {
        int product = 1;
        for (int i = 0; i < times; i++) {
            product *= base;
        }
        return product;
    }

    private static boolean isContent(int mine, int yours, int lose, int goes, int waits) {
        return gain(mine, yours, lose, goes, waits) >= gain(1 - mine, yours, lose, goes, waits);
    }

    private static int gain(int mine, int yours, int lose, int goes, int waits) {
        if (mine == 1) {
            return yours == 1 ? -lose : goes;
        }
        return yours == 1 ? waits : 0;
    }

    private void drawDeed() {
        if (told.guests == 0) {
            return;
        }
        int deed = draw(8);
        if (deed > 2) {
            return;
        }
        int guest = draw(told.guests);
        if (deed == 0) {
            trial.loseWheel(guest, draw(20) + 1);
        } else if (deed == 1) {
            trial.quicken(guest, draw(9) + 1);
        } else {
            trial.engage(guest, draw(told.guests));
        }
    }

    private int draw(int below) {
        drawn = (drawn * 1103515245L + 12345L) % 2147483648L;
        return below > 0 ? (int) (drawn / 65536L % below) : 0;
    }

    /** The signs fed, the token that is being looked at, and the fault of the reading. */
    private static final class Tape {
        static final int MOST_SIGNS = 1000;
        static final int MOST_LETTERS = 8;
        static final int MOST_DIGITS = 4;

        static final int GUEST = 0;
        static final int OFF = 1;
        static final int PACE = 2;
        static final int COOKS = 3;
        static final int BEND = 4;
        static final int HOUR = 5;
        static final int SNOW = 6;
        static final int TASTES = 7;
        static final int WHEEL = 8;
        static final int RUN = 9;
        static final int HIRE = 10;
        static final int MINUTE = 11;
        static final int PLAIN = 12;
        static final int GREAT = 15;
        static final int NOT = 16;
        static final int AND = 17;
        static final int OR = 18;
        static final int FIRST_FACT = 19;
        static final int ALL_WORDS = 23;
        /** In the order of the numbers above; from FIRST_FACT on they may be names, too. */
        static final String WORDS = "guest off pace cooks bend hour snow tastes wheel run hire minute plain doctor shy great not and or skill late guests night ";
        static final String SIGNS = "()<=+-*;";

        private static final int END = 0;
        private static final int WORD = 1;
        private static final int NUMBER = 2;
        private static final int SIGN = 3;
        private static final int NO_TOKEN = 4;

        final byte[] signs = new byte[MOST_SIGNS];
        final long[] words = new long[ALL_WORDS];
        int length;
        int next;
        int place;
        int kind;
        /** The number, the sign, or the word's place in WORDS (NONE: it is not there). */
        int value;
        /** A word's letters, 5 bits each, so that words are compared without making a String. */
        long letters;
        int fault;

        Tape() {
            int word = 0;
            long gathered = 0;
            for (int i = 0; i < WORDS.length(); i++) {
                char sign = WORDS.charAt(i);
                if (isLetter(sign)) {
                    gathered = withLetter(gathered, sign);
                } else if (word < words.length) {
                    words[word] = gathered;
                    word++;
                    gathered = 0;
                }
            }
        }

        void put(long bytes) {
            for (int shift = 56; shift >= 0; shift -= 8) {
                int sign = (int) (bytes >>> shift & 255);
                boolean known = sign == 10 || sign >= 32 && sign <= 126;
                if (known && length < signs.length) {
                    signs[length] = (byte) sign;
                    length++;
                }
            }
        }

        void clear() {
            length = 0;
        }

        void rewind() {
            next = 0;
            fault = 0;
            advance();
        }

        void advance() {
            while (next < length && (signs[next] == 10 || signs[next] == 32)) {
                next++;
            }
            place = next;
            value = NONE;
            if (next >= length) {
                kind = END;
            } else if (isLetter(signs[next])) {
                readWord();
            } else if (isDigit(signs[next])) {
                readNumber();
            } else {
                value = signs[next];
                kind = SIGNS.indexOf((char) value) >= 0 ? SIGN : NO_TOKEN;
                next++;
            }
        }

        private void readWord() {
            letters = 0;
            while (next < length && isLetter(signs[next])) {
                letters = withLetter(letters, signs[next]);
                next++;
            }
            kind = next - place <= MOST_LETTERS ? WORD : NO_TOKEN;
            for (int i = 0; i < words.length && kind == WORD; i++) {
                if (words[i] == letters) {
                    value = i;
                }
            }
        }

        private void readNumber() {
            value = 0;
            while (next < length && isDigit(signs[next])) {
                value = value * 10 + signs[next] - '0';
                next++;
            }
            kind = next - place <= MOST_DIGITS ? NUMBER : NO_TOKEN;
        }

        private static boolean isLetter(int sign) {
            return sign >= 'a' && sign <= 'z';
        }

        private static boolean isDigit(int sign) {
            return sign >= '0' && sign <= '9';
        }

        private static long withLetter(long letters, int sign) {
            return letters * 32 + (sign - 'a' + 1);
        }

        boolean isAtEnd() {
            return kind == END;
        }

        boolean isName() {
            return kind == WORD && (value == NONE || value >= FIRST_FACT);
        }

        boolean isNumber() {
            return kind == NUMBER;
        }

        boolean isSign(char sign) {
            return kind == SIGN && value == sign;
        }

        boolean isWord(int word) {
            return kind == WORD && value == word;
        }

        /** The word's place in WORDS, NONE if there is no such word here. */
        int wordHere() {
            return kind == WORD ? value : NONE;
        }

        boolean wrong(int how) {
            fault = how + 16 * place;
            return false;
        }

        boolean takeSign(char sign) {
            if (!isSign(sign)) {
                return wrong(1);
            }
            advance();
            return true;
        }

        boolean takeWord(int word) {
            if (!isWord(word)) {
                return wrong(1);
            }
            advance();
            return true;
        }

        boolean checkNumber(int least, int most) {
            if (kind != NUMBER) {
                return wrong(1);
            }
            return isWithin(value, least, most) || wrong(4);
        }

        /** The number taken; NONE, and a fault, if it is not one from the least to the most. */
        int takeNumber(int least, int most) {
            if (!checkNumber(least, most)) {
                return NONE;
            }
            int number = value;
            advance();
            return number;
        }
    }

    /** How it tastes: an expression in postfix form; numbers stand for themselves, all else is below 0. */
    private static final class Law {
        static final int MOST_WITHIN = 5;
        static final int MOST_TASTE = 99;

        private static final int FACTS = 4;
        private static final int SKILL = 0;
        private static final int LATE = 1;
        private static final int GUESTS = 2;
        private static final int NIGHT = 3;

        /** A fact is FIRST_FACT less its number. */
        private static final int FIRST_FACT = -1;
        private static final int NO_OPERATOR = 0;
        private static final int NOT = -5;
        private static final int AND = -6;
        private static final int OR = -7;
        private static final int LESS = -8;
        private static final int SAME = -9;
        private static final int PLUS = -10;
        private static final int MINUS = -11;
        private static final int TIMES = -12;

        static final int LOOSEST = 1;
        private static final int COMPARING = 2;
        private static final int ADDING = 3;
        private static final int TIGHTEST = 4;

        final int[] code = new int[Tape.MOST_SIGNS];
        /** Each of the five levels of parts keeps at most one value for each operator's tightness waiting. */
        final int[] stack = new int[(MOST_WITHIN + 1) * TIGHTEST];
        final int[] facts = new int[FACTS];
        int length;
        int top;

        void clear() {
            length = 0;
        }

        /** Takes the word tastes, which must be the first one. */
        boolean takeTastes(Tape tape) {
            if (length > 0) {
                return tape.wrong(3);
            }
            tape.advance();
            return true;
        }

        /** Reads parts joined by operators that bind at least as tightly as is said. */
        boolean readOver(Tape tape, int tightness, int within) {
            if (!readPart(tape, within)) {
                return false;
            }
            int most = TIGHTEST;
            for (int i = 0; i < Tape.MOST_SIGNS; i++) {
                int operator = operatorAt(tape);
                int binds = tightnessOf(operator);
                if (binds < tightness || binds > most) {
                    return true;
                }
                tape.advance();
                if (!readOver(tape, binds + 1, within)) {
                    return false;
                }
                write(operator);
                // A comparison stands once in a test: another one behind it belongs to nobody.
                most = binds == COMPARING ? binds - 1 : binds;
            }
            return true;
        }

        private boolean readPart(Tape tape, int within) {
            boolean number = tape.isNumber();
            boolean fact = tape.wordHere() >= Tape.FIRST_FACT;
            boolean not = tape.isWord(Tape.NOT);
            if (!number && !fact && !not && !tape.isSign('(')) {
                return tape.wrong(1);
            }
            if (within >= MOST_WITHIN) {
                return tape.wrong(5);
            }
            if (number || fact) {
                write(number ? tape.value : FIRST_FACT - (tape.value - Tape.FIRST_FACT));
                tape.advance();
                return true;
            }
            tape.advance();
            if (!not) {
                return readOver(tape, LOOSEST, within + 1) && tape.takeSign(')');
            }
            if (!readPart(tape, within + 1)) {
                return false;
            }
            write(NOT);
            return true;
        }

        private void write(int step) {
            if (length < code.length) {
                code[length] = step;
                length++;
            }
        }

        private static int operatorAt(Tape tape) {
            if (tape.isWord(Tape.AND)) {
                return AND;
            }
            if (tape.isWord(Tape.OR)) {
                return OR;
            }
            if (tape.isSign('<')) {
                return LESS;
            }
            if (tape.isSign('=')) {
                return SAME;
            }
            if (tape.isSign('+')) {
                return PLUS;
            }
            if (tape.isSign('-')) {
                return MINUS;
            }
            return tape.isSign('*') ? TIMES : NO_OPERATOR;
        }

        private static int tightnessOf(int operator) {
            switch (operator) {
                case AND:
                case OR:
                    return LOOSEST;
                case LESS:
                case SAME:
                    return COMPARING;
                case PLUS:
                case MINUS:
                    return ADDING;
                case TIMES:
                    return TIGHTEST;
                default:
                    return 0;
            }
        }

        int taste(int skill, int late, int guests, int night) {
            facts[SKILL] = skill;
            facts[LATE] = late;
            facts[GUESTS] = guests;
            facts[NIGHT] = night;
            top = 0;
            for (int i = 0; i < length; i++) {
                work(code[i]);
            }
            int tells = top > 0 ? stack[top - 1] : skill;
            return Math.max(-MOST_TASTE, Math.min(MOST_TASTE, tells));
        }

        private void work(int step) {
            if (step >= 0) {
                push(step);
            } else if (step > NOT) {
                push(facts[FIRST_FACT - step]);
            } else if (step == NOT && top >= 1) {
                stack[top - 1] = stack[top - 1] == 0 ? 1 : 0;
            } else if (top >= 2) {
                top--;
                stack[top - 1] = join(step, stack[top - 1], stack[top]);
            }
        }

        private void push(int number) {
            if (top < stack.length) {
                stack[top] = number;
                top++;
            }
        }

        private static int join(int operator, int left, int right) {
            switch (operator) {
                case AND: return left != 0 && right != 0 ? 1 : 0;
                case OR: return left != 0 || right != 0 ? 1 : 0;
                case LESS: return left < right ? 1 : 0;
                case SAME: return left == right ? 1 : 0;
                case PLUS: return left + right;
                case MINUS: return left - right;
                default: return left * right;
            }
        }
    }

    /** A supper as it was told. */
    private static final class Told {
        static final int DOCTOR = 1;
        static final int SHY = 2;
        static final int GREAT = 3;

        private static final int USUAL_BEND = 10;
        private static final int USUAL_HOUR = 30;

        final long[] names = new long[MOST_GUESTS];
        final int[] kinds = new int[MOST_GUESTS];
        final int[] yards = new int[MOST_GUESTS];
        final int[] paces = new int[MOST_GUESTS];
        final int[] skills = new int[MOST_GUESTS];
        final int[] snow = new int[12];
        final Law law = new Law();
        int guests;
        int snows;
        int bend = USUAL_BEND;
        int hour = USUAL_HOUR;
        boolean bendTold;
        boolean hourTold;

        void clear() {
            law.clear();
            guests = 0;
            snows = 0;
            bend = USUAL_BEND;
            hour = USUAL_HOUR;
            bendTold = false;
            hourTold = false;
        }

        boolean read(Tape tape) {
            clear();
            boolean right = true;
            for (int i = 0; i < Tape.MOST_SIGNS && right && !tape.isAtEnd(); i++) {
                switch (tape.wordHere()) {
                    case Tape.GUEST: right = readGuest(tape); break;
                    case Tape.BEND: right = readBend(tape); break;
                    case Tape.HOUR: right = readHour(tape); break;
                    case Tape.SNOW: right = readSnow(tape); break;
                    case Tape.TASTES: right = law.takeTastes(tape) && law.readOver(tape, Law.LOOSEST, 0); break;
                    default: right = tape.wrong(1); break;
                }
                right = right && tape.takeSign(';');
            }
            return right;
        }

        private boolean readGuest(Tape tape) {
            if (guests >= names.length) {
                return tape.wrong(5);
            }
            int guest = guests;
            tape.advance();
            if (!tape.isName()) {
                return tape.wrong(1);
            }
            if (numberOf(tape.letters) != NONE) {
                return tape.wrong(3);
            }
            names[guest] = tape.letters;
            tape.advance();
            int kind = tape.wordHere();
            if (kind < Tape.PLAIN || kind > Tape.GREAT) {
                return tape.wrong(1);
            }
            kinds[guest] = kind - Tape.PLAIN;
            tape.advance();
            yards[guest] = readMeasure(tape, Tape.OFF, 1, MOST_YARDS);
            if (yards[guest] == NONE) {
                return false;
            }
            paces[guest] = readMeasure(tape, Tape.PACE, 1, 30);
            if (paces[guest] == NONE) {
                return false;
            }
            skills[guest] = readMeasure(tape, Tape.COOKS, 0, 20);
            guests++;
            return skills[guest] != NONE;
        }

        private static int readMeasure(Tape tape, int word, int least, int most) {
            return tape.takeWord(word) ? tape.takeNumber(least, most) : NONE;
        }

        private boolean readBend(Tape tape) {
            if (bendTold) {
                return tape.wrong(3);
            }
            bendTold = true;
            bend = readMeasure(tape, Tape.BEND, 1, 50);
            return bend != NONE;
        }

        private boolean readHour(Tape tape) {
            if (hourTold) {
                return tape.wrong(3);
            }
            hourTold = true;
            hour = readMeasure(tape, Tape.HOUR, 1, 200);
            return hour != NONE;
        }

        private boolean readSnow(Tape tape) {
            if (snows > 0) {
                return tape.wrong(3);
            }
            tape.advance();
            for (int i = 0; i <= snow.length && (snows == 0 || tape.isNumber()); i++) {
                if (!tape.checkNumber(0, 9)) {
                    return false;
                }
                if (snows >= snow.length) {
                    return tape.wrong(5);
                }
                snow[snows] = tape.value;
                snows++;
                tape.advance();
            }
            return true;
        }

        int numberOf(long letters) {
            for (int guest = 0; guest < guests; guest++) {
                if (names[guest] == letters) {
                    return guest;
                }
            }
            return NONE;
        }

        int snowAt(int minute) {
            return snows > 0 && minute >= 0 ? snow[minute % snows] : 0;
        }
    }

    /** A night as it was told, line by line. */
    private static final class Lines {
        static final int MOST_LINES = 40;

        final int[] deeds = new int[MOST_LINES];
        final int[] guests = new int[MOST_LINES];
        /** Minutes of a wheel, pace of a run, or who is hired. */
        final int[] wholes = new int[MOST_LINES];
        int size;

        void clear() {
            size = 0;
        }

        void copyFrom(Lines other) {
            System.arraycopy(other.deeds, 0, deeds, 0, MOST_LINES);
            System.arraycopy(other.guests, 0, guests, 0, MOST_LINES);
            System.arraycopy(other.wholes, 0, wholes, 0, MOST_LINES);
            size = other.size;
        }

        boolean read(Tape tape, Told told) {
            clear();
            for (int i = 0; i < Tape.MOST_SIGNS && !tape.isAtEnd(); i++) {
                if (!readLine(tape, told) || !tape.takeSign(';')) {
                    return false;
                }
            }
            return true;
        }

        private boolean readLine(Tape tape, Told told) {
            int deed = tape.wordHere();
            if (deed < Tape.WHEEL || deed > Tape.MINUTE) {
                return tape.wrong(1);
            }
            if (size >= MOST_LINES) {
                return tape.wrong(5);
            }
            int line = size;
            size++;
            deeds[line] = deed;
            tape.advance();
            if (deed == Tape.MINUTE) {
                return true;
            }
            guests[line] = readName(tape, told);
            if (guests[line] == NONE) {
                return false;
            }
            tape.advance();
            if (deed == Tape.HIRE) {
                return readHired(tape, told, line);
            }
            wholes[line] = tape.takeNumber(1, deed == Tape.WHEEL ? MOST_STUCK : MOST_RUN);
            return wholes[line] != NONE;
        }

        private boolean readHired(Tape tape, Told told, int line) {
            wholes[line] = readName(tape, told);
            if (wholes[line] == NONE) {
                return false;
            }
            if (wholes[line] == guests[line]) {
                return tape.wrong(3);
            }
            tape.advance();
            return true;
        }

        /** The guest whose name stands here; NONE, and a fault, if it is none's. The tape stays. */
        private static int readName(Tape tape, Told told) {
            int guest = tape.isName() ? told.numberOf(tape.letters) : NONE;
            if (guest == NONE) {
                tape.wrong(tape.isName() ? 2 : 1);
            }
            return guest;
        }

        /** Does a line; false if it can't be, and is left out. */
        boolean play(int line, Road road, Told told) {
            if (line < 0 || line >= size) {
                return false;
            }
            int guest = guests[line];
            switch (deeds[line]) {
                case Tape.WHEEL:
                    return road.loseWheel(guest, wholes[line]);
                case Tape.RUN:
                    return road.quicken(guest, wholes[line]);
                case Tape.HIRE:
                    return road.engage(guest, wholes[line]);
                default:
                    road.pass(told);
                    return true;
            }
        }
    }

    /** How it is: who is where, in which minute of which night, and what has come of the nights before. */
    private static final class Road {
        static final int MOST_PACE = 40;

        /** 0: in. */
        final int[] yards = new int[MOST_GUESTS];
        final int[] paces = new int[MOST_GUESTS];
        final int[] stuck = new int[MOST_GUESTS];
        final int[] hirers = new int[MOST_GUESTS];
        final int[] places = new int[MOST_GUESTS];
        /** The minute of this night in which one came in. */
        final int[] cameAt = new int[MOST_GUESTS];
        final int[] cooked = new int[MOST_GUESTS];
        int inside;
        int night;
        int minute;
        int tasted;
        int lastCook = NONE;
        /** Whether the last minute changed anything on the road. */
        boolean stirred;

        void begin(Told told) {
            night = 0;
            tasted = 0;
            lastCook = NONE;
            for (int guest = 0; guest < MOST_GUESTS; guest++) {
                cooked[guest] = 0;
            }
            beginNight(told);
        }

        private void beginNight(Told told) {
            minute = 0;
            inside = 0;
            for (int guest = 0; guest < MOST_GUESTS; guest++) {
                boolean comes = guest < told.guests;
                yards[guest] = comes ? told.yards[guest] : 0;
                paces[guest] = comes ? told.paces[guest] : 0;
                stuck[guest] = 0;
                hirers[guest] = NONE;
                places[guest] = NONE;
                cameAt[guest] = NONE;
            }
        }

        void copyFrom(Road other) {
            System.arraycopy(other.yards, 0, yards, 0, MOST_GUESTS);
            System.arraycopy(other.paces, 0, paces, 0, MOST_GUESTS);
            System.arraycopy(other.stuck, 0, stuck, 0, MOST_GUESTS);
            System.arraycopy(other.hirers, 0, hirers, 0, MOST_GUESTS);
            System.arraycopy(other.places, 0, places, 0, MOST_GUESTS);
            System.arraycopy(other.cameAt, 0, cameAt, 0, MOST_GUESTS);
            System.arraycopy(other.cooked, 0, cooked, 0, MOST_GUESTS);
            inside = other.inside;
            night = other.night;
            minute = other.minute;
            tasted = other.tasted;
            lastCook = other.lastCook;
        }

        boolean isOnRoad(int guest) {
            return guest >= 0 && guest < MOST_GUESTS && yards[guest] > 0;
        }

        int onRoadWithin(int guests, int most) {
            int bits = 0;
            for (int guest = 0; guest < guests; guest++) {
                if (isOnRoad(guest) && yards[guest] <= most) {
                    bits |= 1 << guest;
                }
            }
            return bits;
        }

        /** How many of these guests are no farther off than so many yards. */
        int noFarther(int bits, int most) {
            int found = 0;
            for (int guest = 0; guest < MOST_GUESTS; guest++) {
                if ((bits >> guest & 1) == 1 && yards[guest] <= most) {
                    found++;
                }
            }
            return found;
        }

        boolean loseWheel(int guest, int minutes) {
            if (!isOnRoad(guest)) {
                return false;
            }
            stuck[guest] = Math.min(MOST_STUCK, stuck[guest] + minutes);
            return true;
        }

        boolean quicken(int guest, int more) {
            if (!isOnRoad(guest)) {
                return false;
            }
            paces[guest] = Math.min(MOST_PACE, paces[guest] + more);
            return true;
        }

        boolean canEngage(int guest, int other) {
            return guest != other && isOnRoad(guest) && isOnRoad(other) && hirers[other] == NONE;
        }

        boolean engage(int guest, int other) {
            if (!canEngage(guest, other)) {
                return false;
            }
            hirers[other] = guest;
            return true;
        }

        /** Who on the road goes no nearer than the bend, by who is in now. */
        int holdingBack(Told told) {
            boolean othersOut = isSomeoneOutWhoIsNotGreat(told);
            int bits = 0;
            for (int guest = 0; guest < told.guests; guest++) {
                boolean holds = isOnRoad(hirers[guest])
                        || told.kinds[guest] == Told.SHY && inside == 0 && told.guests > 1
                        || told.kinds[guest] == Told.GREAT && othersOut;
                if (holds && isOnRoad(guest)) {
                    bits |= 1 << guest;
                }
            }
            return bits;
        }

        private boolean isSomeoneOutWhoIsNotGreat(Told told) {
            for (int guest = 0; guest < told.guests; guest++) {
                if (isOnRoad(guest) && told.kinds[guest] != Told.GREAT) {
                    return true;
                }
            }
            return false;
        }

        /** All on the road go on for a minute; the minute is not counted and nothing is eaten yet. */
        void walk(Told told, int snow) {
            int holding = holdingBack(told);
            stirred = false;
            for (int guest = 0; guest < told.guests; guest++) {
                if (!isOnRoad(guest)) {
                    continue;
                }
                if (stuck[guest] > 0) {
                    stuck[guest]--;
                    stirred = true;
                    continue;
                }
                int from = yards[guest];
                int nearest = (holding >> guest & 1) == 1 ? Math.min(from, told.bend) : 0;
                int to = Math.max(nearest, from - Math.max(1, paces[guest] - snow));
                stirred |= to != from;
                yards[guest] = to;
                if (to == 0) {
                    places[guest] = inside;
                    cameAt[guest] = minute;
                    inside++;
                }
            }
        }

        /** A minute in which whoever comes in stays there, even if all are in then. */
        void walkOn(Told told) {
            walk(told, told.snowAt(minute));
            minute++;
        }

        /** A minute by the snow that is told: who cooks by it, or NONE. */
        int pass(Told told) {
            return passBySnow(told, told.snowAt(minute));
        }

        int passBySnow(Told told, int snow) {
            walk(told, snow);
            if (told.guests == 0 || inside < told.guests) {
                minute++;
                return NONE;
            }
            int chosen = cookAtTable(told);
            eat(told, chosen);
            return chosen;
        }

        private int cookAtTable(Told told) {
            for (int i = told.guests - 1; i >= 0; i--) {
                int guest = atPlace(i);
                if (guest != NONE && told.kinds[guest] != Told.DOCTOR) {
                    return guest;
                }
            }
            return atPlace(told.guests - 1);
        }

        private void eat(Told told, int chosen) {
            if (chosen < 0 || chosen >= MOST_GUESTS) {
                return;
            }
            int late = Math.max(0, minute + 1 - told.hour);
            tasted += told.law.taste(told.skills[chosen], late, told.guests, night);
            cooked[chosen]++;
            lastCook = chosen;
            night++;
            beginNight(told);
        }

        int atPlace(int i) {
            for (int guest = 0; guest < MOST_GUESTS; guest++) {
                if (i >= 0 && places[guest] == i) {
                    return guest;
                }
            }
            return NONE;
        }

        /** How many came in in this minute of this night. */
        int cameIn(int then) {
            int found = 0;
            for (int guest = 0; guest < MOST_GUESTS; guest++) {
                if (cameAt[guest] == then) {
                    found++;
                }
            }
            return found;
        }

        /** Minutes go by until it is eaten: how many, or NONE if it takes more than so many. */
        int goOn(Told told, int most) {
            for (int gone = 1; gone <= most; gone++) {
                if (passBySnow(told, told.snowAt(minute)) != NONE) {
                    return gone;
                }
                // Where a minute changed nothing, no other one will: snow never stops a pace.
                if (!stirred) {
                    return NONE;
                }
            }
            return NONE;
        }
    }

    /** What was seen of an unknown guest. */
    private static final class Sights {
        static final int MOST_SIGHTS = 8;

        final int[] minutes = new int[MOST_SIGHTS];
        final int[] yards = new int[MOST_SIGHTS];
        final boolean[] near = new boolean[MOST_SIGHTS];
        int size;

        void clear() {
            size = 0;
        }

        void copyFrom(Sights other) {
            System.arraycopy(other.minutes, 0, minutes, 0, MOST_SIGHTS);
            System.arraycopy(other.yards, 0, yards, 0, MOST_SIGHTS);
            System.arraycopy(other.near, 0, near, 0, MOST_SIGHTS);
            size = other.size;
        }

        boolean add(int behind, int off, boolean noFarther) {
            if (size >= MOST_SIGHTS) {
                return false;
            }
            minutes[size] = behind;
            yards[size] = off;
            near[size] = noFarther;
            size++;
            return true;
        }

        int lastMinute() {
            int last = NONE;
            for (int i = 0; i < size; i++) {
                last = Math.max(last, minutes[i]);
            }
            return last;
        }

        /** Guests, as bits, who are where the sights of this minute ask. */
        int fitting(int minute, Road road) {
            int bits = (1 << MOST_GUESTS) - 1;
            for (int i = 0; i < size; i++) {
                for (int guest = 0; guest < MOST_GUESTS && minutes[i] == minute; guest++) {
                    if ((road.yards[guest] <= yards[i]) != near[i]) {
                        bits &= ~(1 << guest);
                    }
                }
            }
            return bits;
        }
    }

    /** How it was ahead of the last things done, the oldest being dropped. */
    private static final class Past {
        static final int MOST_KEPT = 16;

        final Road[] kept = new Road[MOST_KEPT];
        int first;
        int size;

        Past() {
            for (int i = 0; i < MOST_KEPT; i++) {
                kept[i] = new Road();
            }
        }

        void clear() {
            size = 0;
        }

        void keep(Road road) {
            if (size == MOST_KEPT) {
                first = (first + 1) % MOST_KEPT;
                size--;
            }
            kept[(first + size) % MOST_KEPT].copyFrom(road);
            size++;
        }

        boolean giveBack(Road road) {
            if (size == 0) {
                return false;
            }
            size--;
            road.copyFrom(kept[(first + size) % MOST_KEPT]);
            return true;
        }
    }

    /** How it was, the night told and what was seen, when the mark was laid. */
    private static final class Mark {
        final Road road = new Road();
        final Lines lines = new Lines();
        final Sights sights = new Sights();
        boolean laid;
    }
}
