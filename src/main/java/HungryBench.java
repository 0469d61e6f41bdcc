import java.util.Arrays;
import java.util.NoSuchElementException;

/** A circuit whose judges must be hungry. DOC.md says, promise by promise, what each call answers. */
public final class HungryBench {
    public static final int NONE = -1;

    private static final int MOST_JUDGES = 5;
    private static final int MOST_CASES = 8;
    private static final int DAY_HOURS = 12;
    private static final int PLACES = MOST_JUDGES * DAY_HOURS;
    private static final int LATEST_DAY = 9999;
    private static final int LATE_HOUR = 6;
    private static final int KINDS = 6;
    private static final int CIRCUITS = 5;
    private static final int MOST_HUNGER = 99;
    private static final int MOST_GRAVE = 99;
    private static final int MOST_INN = 100;
    private static final int MOST_TEXTS = 12;
    private static final int MOST_RUN = 48;
    private static final int MOST_ODDS = 4;
    private static final int SPAN_SEEDS = 6;
    private static final int TAPE_ROOM = 400;
    private static final int FEED_BYTES = 20;
    private static final int MEAL_BYTES = 45;
    private static final int FIRST_HUNGERS = 61;
    private static final int NO_ROW = -1000;

    private static final int WAITING = 0;
    private static final int FREED = 1;
    private static final int HANGED = 2;
    private static final int UNDONE = 3;

    private final Tape tape;
    private final Town now;
    private final Town draft;
    private final Town kept;
    private final Law rules;
    private final Law draftRules;
    private final Law keptRules;
    private final AssizeText assizeText;
    private final LawText lawText;
    private final Court court;
    private final Sitting sitting;
    private final Sitting rehearsal;
    private final Matches matches;
    private final Past past;
    private boolean imageKept;
    private int firstWrong;

    public HungryBench() {
        tape = new Tape();
        now = new Town();
        draft = new Town();
        kept = new Town();
        rules = new Law();
        draftRules = new Law();
        keptRules = new Law();
        assizeText = new AssizeText(tape, draft);
        lawText = new LawText(tape, draftRules);
        court = new Court(now, rules);
        sitting = new Sitting(now, court);
        rehearsal = new Sitting(draft, new Court(draft, rules));
        matches = new Matches(now, court);
        past = new Past();
        imageKept = false;
        firstWrong = NONE;
    }

    public int feed(int a, int b, int c, int d, int e) {
        if (tape.length + FEED_BYTES > TAPE_ROOM) {
            return NONE;
        }
        tape.put(a);
        tape.put(b);
        tape.put(c);
        tape.put(d);
        tape.put(e);
        return tape.length;
    }

    public boolean end(int n) {
        if (n < 0 || n > tape.length) {
            return false;
        }
        tape.length = n;
        return true;
    }

    public int assize() throws IllegalArgumentException, UnsupportedOperationException {
        draft.copyFrom(now);
        boolean right = assizeText.readAll();
        firstWrong = tape.wrong;
        if (!right) {
            throw new IllegalArgumentException();
        }
        if (now.texts >= MOST_TEXTS) {
            throw new UnsupportedOperationException();
        }
        draft.texts++;
        now.copyFrom(draft);
        past.forget();
        return now.texts;
    }

    public int law() throws IllegalArgumentException {
        draftRules.clear();
        boolean right = lawText.readAll();
        firstWrong = tape.wrong;
        if (!right) {
            throw new IllegalArgumentException();
        }
        rules.copyFrom(draftRules);
        past.forget();
        return rules.lines;
    }

    public int fault() {
        return firstWrong;
    }

    public int judge(int judge, int what) throws IndexOutOfBoundsException, NoSuchElementException {
        needJudge(judge);
        switch (what) {
            case 0: return now.hunger[judge];
            case 1: return now.mercy[judge];
            case 2: return now.nerve[judge];
            case 3: return now.pay[judge];
            case 4: return court.crumbsOf(judge, now.waitingAt(judge, now.hour));
            case 5: return court.harshness(judge);
            case 6: return now.shareOf(judge);
            case 7: return now.freeHours(judge);
            case 8: return matches.circuitOf(judge);
            default: throw new NoSuchElementException();
        }
    }

    public int cause(int cause, int what) throws IndexOutOfBoundsException, NoSuchElementException {
        needCase(cause);
        int place = now.placeOf(cause);
        switch (what) {
            case 0: return now.kinds[cause];
            case 1: return now.graves[cause];
            case 2: return now.worths[cause];
            case 3: return now.leans[cause];
            case 4: return now.states[cause];
            case 5: return now.by[cause];
            case 6: return now.days[cause];
            case 7: return place < 0 ? NONE : place / DAY_HOURS;
            case 8: return place < 0 ? NONE : place % DAY_HOURS;
            case 9: return now.leaningOn(cause);
            case 10: return court.benchFor(cause);
            case 11: return court.delayOf(cause);
            case 12: return matches.shareJudge(cause);
            default: throw new NoSuchElementException();
        }
    }

    public int listed(int judge, int hour) throws IndexOutOfBoundsException {
        needJudge(judge);
        needHour(hour);
        return now.caseAt(judge, hour);
    }

    public int smell(int hour) throws IndexOutOfBoundsException {
        needHour(hour);
        return now.inns[hour];
    }

    public int point(int judge, int cause, int hour) throws IndexOutOfBoundsException {
        needJudge(judge);
        needCase(cause);
        needHour(hour);
        return court.pointOf(judge, cause, hour);
    }

    public int would(int judge, int cause, int hour) throws IndexOutOfBoundsException {
        needJudge(judge);
        needCase(cause);
        needHour(hour);
        return court.wouldBe(judge, cause, hour);
    }

    public int hours(int n) throws IllegalArgumentException {
        needNumber(n, 1, MOST_RUN);
        past.remember(now);
        return sitting.goOn(n, true);
    }

    public int list(int judge, int hour, int cause) throws IndexOutOfBoundsException, IllegalStateException {
        needJudge(judge);
        needHour(hour);
        needCase(cause);
        if (now.states[cause] != WAITING) {
            throw new IllegalStateException();
        }
        past.remember(now);
        int stood = now.caseAt(judge, hour);
        now.takeOff(cause);
        now.putAt(judge, hour, cause);
        return stood;
    }

    public int strike(int judge, int hour) throws IndexOutOfBoundsException, IllegalStateException {
        needJudge(judge);
        needHour(hour);
        int stood = now.caseAt(judge, hour);
        if (stood < 0) {
            throw new IllegalStateException();
        }
        past.remember(now);
        now.putAt(judge, hour, NONE);
        return stood;
    }

    public int feeds(int judge) throws IndexOutOfBoundsException {
        needJudge(judge);
        past.remember(now);
        int had = now.hunger[judge];
        now.hunger[judge] = 0;
        return had;
    }

    public int fast(int judge, int n)
            throws IndexOutOfBoundsException, IllegalArgumentException, IllegalStateException {
        needJudge(judge);
        needNumber(n, 0, MOST_HUNGER);
        int had = now.hunger[judge];
        if (had > n) {
            throw new IllegalStateException();
        }
        past.remember(now);
        now.hunger[judge] = n;
        return had;
    }

    public int inn(int hour, int n) throws IndexOutOfBoundsException, IllegalArgumentException {
        needHour(hour);
        needNumber(n, 0, MOST_INN);
        past.remember(now);
        int was = now.inns[hour];
        now.inns[hour] = n;
        return was;
    }

    public int appeal(int cause) throws IndexOutOfBoundsException, IllegalStateException {
        needCase(cause);
        int was = now.states[cause];
        if (was != HANGED && was != UNDONE) {
            throw new IllegalStateException();
        }
        past.remember(now);
        now.states[cause] = WAITING;
        now.by[cause] = NONE;
        now.days[cause] = NONE;
        return was;
    }

    public int grave(int cause, int n) throws IndexOutOfBoundsException, IllegalArgumentException {
        needCase(cause);
        needNumber(n, 0, MOST_GRAVE);
        past.remember(now);
        int was = now.graves[cause];
        now.graves[cause] = n;
        return was;
    }

    public int early(int judge, int cause) throws IndexOutOfBoundsException {
        needJudge(judge);
        needCase(cause);
        return court.firstFreeing(judge, cause, now.hour);
    }

    public boolean split(int cause) throws IndexOutOfBoundsException {
        needCase(cause);
        int freeing = court.freeingNow(cause);
        return freeing > 0 && freeing < now.judges;
    }

    public int saved(boolean worth) {
        matches.openPlaces();
        int set = matches.savedCases();
        return worth ? now.worthOf(set) : set;
    }

    public int needed() {
        matches.openPlaces();
        return matches.hoursFor(matches.savedCases());
    }

    public int crumbles(int judge) throws IndexOutOfBoundsException {
        needJudge(judge);
        return now.crumbling(judge);
    }

    public int worst() {
        int best = NONE;
        int most = -1;
        for (int j = 0; j < now.judges; j++) {
            int undone = Integer.bitCount(now.crumbling(j));
            if (undone > most) {
                most = undone;
                best = j;
            }
        }
        return best;
    }

    public int deep() {
        int most = 0;
        for (int c = 0; c < now.cases; c++) {
            most = Math.max(most, now.chainTo(c));
        }
        return most;
    }

    public int roots() {
        int set = 0;
        for (int c = 0; c < now.cases; c++) {
            if (now.leans[c] < 0 && now.leaningOn(c) != 1 << c) {
                set |= 1 << c;
            }
        }
        return set;
    }

    public int meals(int judge, boolean least) throws IndexOutOfBoundsException, IllegalArgumentException {
        long fits = hungersThatFit(judge);
        if (!least) {
            return Long.bitCount(fits);
        }
        for (int hunger = 0; hunger < FIRST_HUNGERS; hunger++) {
            if ((fits >> hunger & 1L) != 0) {
                return hunger;
            }
        }
        return NONE;
    }

    public int tries(int judge) throws IndexOutOfBoundsException, IllegalArgumentException {
        return court.bestTry(judge, hungersThatFit(judge));
    }

    public int moved(int judge, int cause) throws IndexOutOfBoundsException {
        needJudge(judge);
        needCase(cause);
        return court.movingHunger(judge, cause);
    }

    public int even(int judge, int cause) throws IndexOutOfBoundsException {
        needJudge(judge);
        needCase(cause);
        return court.hangingGrave(judge, cause);
    }

    public int rather(int judge, int circuit) throws IndexOutOfBoundsException {
        needJudge(judge);
        if (circuit < 0 || circuit >= CIRCUITS) {
            throw new IndexOutOfBoundsException();
        }
        return matches.circuitsAheadOf(judge, circuit);
    }

    public int worth() {
        return court.bestAppeal();
    }

    public int pairs(int judge) throws IndexOutOfBoundsException {
        if (judge != NONE) {
            needJudge(judge);
        }
        matches.pairAll();
        return judge == NONE ? matches.bestTotal : matches.bestPartners[judge];
    }

    public int agree() {
        int set = 0;
        for (int c = 0; c < now.cases; c++) {
            if (now.states[c] == WAITING && court.freeingNow(c) == now.judges) {
                set |= 1 << c;
            }
        }
        return set;
    }

    public int rests(int judge) throws IndexOutOfBoundsException {
        needJudge(judge);
        return matches.restingChoices(judge);
    }

    public int odds(int judge, int n) throws IndexOutOfBoundsException, IllegalArgumentException {
        needJudge(judge);
        needNumber(n, 0, MOST_ODDS);
        int odds = 10000;
        for (int i = 0; i < n; i++) {
            int crumbs = Math.max(0, now.inns[(now.hour + i) % DAY_HOURS] - 10 * now.nerve[judge]);
            odds = odds * (100 - crumbs) / 100;
        }
        return odds;
    }

    public int hungriest() {
        int best = NONE;
        for (int j = 0; j < now.judges; j++) {
            if (best < 0 || now.hunger[j] > now.hunger[best]) {
                best = j;
            }
        }
        return best;
    }

    public int gravest() {
        int best = NONE;
        for (int c = 0; c < now.cases; c++) {
            if (now.states[c] == WAITING && (best < 0 || now.graves[c] > now.graves[best])) {
                best = c;
            }
        }
        return best;
    }

    public int kind(int kind) throws IndexOutOfBoundsException {
        if (kind < 0 || kind >= KINDS) {
            throw new IndexOutOfBoundsException();
        }
        int set = 0;
        for (int c = 0; c < now.cases; c++) {
            if (now.kinds[c] == kind) {
                set |= 1 << c;
            }
        }
        return set;
    }

    public int state(int state) throws IllegalArgumentException {
        needNumber(state, WAITING, UNDONE);
        return now.inState(state);
    }

    public int twins() {
        int pairs = 0;
        for (int c = 0; c < now.cases; c++) {
            for (int d = c + 1; d < now.cases; d++) {
                if (now.kinds[c] == now.kinds[d] && now.graves[c] == now.graves[d]) {
                    pairs++;
                }
            }
        }
        return pairs;
    }

    public int ahead(int cause, int n) throws IndexOutOfBoundsException, IllegalArgumentException {
        needCase(cause);
        needNumber(n, 0, MOST_RUN);
        draft.copyFrom(now);
        rehearsal.goOn(n, false);
        return draft.states[cause];
    }

    public int trial(int n, boolean undone) throws IllegalArgumentException {
        needNumber(n, 0, MOST_RUN);
        rehearse(n, now.seed);
        return draft.inState(undone ? UNDONE : FREED);
    }

    public int span(int n, boolean most) throws IllegalArgumentException {
        needNumber(n, 0, MOST_RUN);
        int least = 0;
        int greatest = 0;
        for (int s = 1; s <= SPAN_SEEDS; s++) {
            rehearse(n, s);
            int worth = draft.worthOf(draft.inState(FREED));
            least = s == 1 ? worth : Math.min(least, worth);
            greatest = Math.max(greatest, worth);
        }
        return most ? greatest : least;
    }

    public int led(int cause, boolean day) throws IndexOutOfBoundsException {
        needCase(cause);
        return day ? now.rows.latestDayOf(cause) : now.rows.rowsOf(cause);
    }

    public int log(int ago, int what) throws NoSuchElementException {
        if (what < 0 || what >= Log.WIDTH) {
            throw new NoSuchElementException();
        }
        return now.rows.look(ago, what);
    }

    public int seed(int n) {
        int was = now.seed;
        now.seed = n;
        return was;
    }

    public boolean undo() {
        return past.goBack(now);
    }

    public void image() {
        kept.copyFrom(now);
        keptRules.copyFrom(rules);
        imageKept = true;
    }

    public boolean back() {
        if (!imageKept) {
            return false;
        }
        now.copyFrom(kept);
        rules.copyFrom(keptRules);
        past.forget();
        return true;
    }

    public int count(int what) {
        switch (what) {
            case 0: return now.judges;
            case 1: return now.cases;
            case 2: return now.texts;
            case 3: return rules.lines;
            case 4: return now.hour;
            case 5: return now.day;
            case 6: return now.inState(WAITING);
            case 7: return now.inList();
            case 8: return now.hungerOfAll();
            case 9: return now.rows.size;
            case 10: return past.size;
            default: return NONE;
        }
    }

    private void needJudge(int judge) {
        if (judge < 0 || judge >= now.judges) {
            throw new IndexOutOfBoundsException();
        }
    }

    private void needCase(int cause) {
        if (cause < 0 || cause >= now.cases) {
            throw new IndexOutOfBoundsException();
        }
    }

    private void needHour(int hour) {
        if (hour < 0 || hour >= DAY_HOURS) {
            throw new IndexOutOfBoundsException();
        }
    }

    private void needNumber(int n, int least, int most) {
        if (n < least || n > most) {
            throw new IllegalArgumentException();
        }
    }

    /** Uses the tape up ahead of any test: a call that throws has used it up, too. */
    private long hungersThatFit(int judge) {
        int length = tape.useUp();
        needJudge(judge);
        if (!areMeals(length)) {
            throw new IllegalArgumentException();
        }
        return court.fittingHungers(judge, tape.bytes, length);
    }

    private boolean areMeals(int length) {
        if (length > MEAL_BYTES || length % 3 != 0) {
            return false;
        }
        for (int i = 0; i + 2 < length; i += 3) {
            if (tape.bytes[i] >= DAY_HOURS || tape.bytes[i + 1] >= now.cases || tape.bytes[i + 2] > 1) {
                return false;
            }
        }
        return true;
    }

    private void rehearse(int n, int seed) {
        draft.copyFrom(now);
        draft.seed = seed;
        rehearsal.goOn(n, true);
    }

    /** The bytes that came, and the things (words, numbers, signs) that a text of them is made of. */
    private static final class Tape {
        /** Each word with a blank behind it; its place among them is its number. Those of facts stand first. */
        static final String WORDS =
                "judge hunger nerve kind grave worth hour leaning precedent late mercy pay case list inn day on move harden crumb if or and not a b c d e f ";

        /** Things: numbers are themselves, words stand from WORD on by their numbers, signs from SIGN on. */
        static final int END = -1;
        static final int WORD = 1000;
        static final int JUDGE = WORD;
        static final int HUNGER = WORD + 1;
        static final int NERVE = WORD + 2;
        static final int KIND = WORD + 3;
        static final int GRAVE = WORD + 4;
        static final int WORTH = WORD + 5;
        static final int HOUR = WORD + 6;
        static final int LEANING = WORD + 7;
        static final int PRECEDENT = WORD + 8;
        static final int LATE = WORD + 9;
        static final int MERCY = WORD + 10;
        static final int PAY = WORD + 11;
        static final int CASE = WORD + 12;
        static final int LIST = WORD + 13;
        static final int INN = WORD + 14;
        static final int DAY = WORD + 15;
        static final int ON = WORD + 16;
        static final int MOVE = WORD + 17;
        static final int HARDEN = WORD + 18;
        static final int CRUMB = WORD + 19;
        static final int IF = WORD + 20;
        static final int OR = WORD + 21;
        static final int AND = WORD + 22;
        static final int NOT = WORD + 23;
        static final int LETTER = WORD + 24;
        static final int SIGN = 2000;
        /** A number of more digits, or a word that is none: it can stand nowhere. */
        static final int NO_THING = 3000;

        static final int MOST_DIGITS = 3;

        final int[] bytes = new int[TAPE_ROOM];
        final int[] things = new int[TAPE_ROOM + 1];
        final int[] starts = new int[TAPE_ROOM + 1];
        int length = 0;
        int at = 0;
        int wrong = NONE;

        void put(int number) {
            for (int shift = 24; shift >= 0; shift -= 8) {
                if (length < TAPE_ROOM) {
                    bytes[length] = (number >>> shift) & 255;
                    length++;
                }
            }
        }

        int useUp() {
            int had = length;
            length = 0;
            return had;
        }

        /** Uses the tape up, and tells its things, END behind them. */
        void open() {
            int stop = useUp();
            int count = 0;
            for (int i = 0; i < stop; i++) {
                if (bytes[i] != ' ' && !goesOn(i)) {
                    starts[count] = i;
                    things[count] = thingAt(i, stop);
                    count++;
                }
            }
            starts[count] = stop;
            things[count] = END;
            at = 0;
            wrong = NONE;
        }

        /** Whether a byte is of the word or the number that the one ahead of it is of. */
        boolean goesOn(int i) {
            int ahead = i > 0 ? bytes[i - 1] : ' ';
            return isLetter(ahead) && isLetter(bytes[i]) || isDigit(ahead) && isDigit(bytes[i]);
        }

        int thingAt(int start, int stop) {
            int end = start + 1;
            while (end < stop && goesOn(end)) {
                end++;
            }
            if (isLetter(bytes[start])) {
                return wordOf(start, end);
            }
            return isDigit(bytes[start]) ? numberOf(start, end) : SIGN + bytes[start];
        }

        int wordOf(int start, int stop) {
            int number = 0;
            int next = start;
            boolean same = true;
            for (int i = 0; i < WORDS.length(); i++) {
                char letter = WORDS.charAt(i);
                if (letter != ' ') {
                    same = same && next < stop && bytes[next] == letter;
                    next++;
                } else if (same && next == stop) {
                    return WORD + number;
                } else {
                    number++;
                    next = start;
                    same = true;
                }
            }
            return NO_THING;
        }

        int numberOf(int start, int stop) {
            if (stop - start > MOST_DIGITS) {
                return NO_THING;
            }
            int number = 0;
            for (int i = start; i < stop; i++) {
                number = number * 10 + bytes[i] - '0';
            }
            return number;
        }

        static boolean isLetter(int b) {
            return b >= 'a' && b <= 'z';
        }

        static boolean isDigit(int b) {
            return b >= '0' && b <= '9';
        }

        int here() {
            return things[at];
        }

        /** What stands here cannot stand here. */
        boolean refuse() {
            wrong = starts[at];
            return false;
        }

        /** Goes behind the thing here, if it is that one; never behind END. */
        boolean take(int thing) {
            if (things[at] != thing || at >= TAPE_ROOM) {
                return false;
            }
            at++;
            return true;
        }

        boolean need(int thing) {
            return take(thing) || refuse();
        }

        /** A thing from least to most, told from least on; NONE, if it is refused. */
        int needFrom(int least, int most) {
            int thing = things[at];
            if (thing < least || thing > most || !take(thing)) {
                refuse();
                return NONE;
            }
            return thing - least;
        }

        int needNumber(int most) {
            return needFrom(0, most);
        }

        /** A word and its number; NONE, if one of them is refused. */
        int needNamed(int word, int most) {
            return need(word) ? needFrom(0, most) : NONE;
        }

        /** A word and its number, or what counts without; NONE, if the number is refused. */
        int maybeNamed(int word, int most, int without) {
            return take(word) ? needFrom(0, most) : without;
        }
    }

    /** A text of LINES with ; between them. */
    private abstract static class Text {
        final Tape tape;
        final int mostLines;

        Text(Tape tape, int mostLines) {
            this.tape = tape;
            this.mostLines = mostLines;
        }

        abstract boolean readLine();

        boolean readAll() {
            tape.open();
            if (tape.here() == Tape.END) {
                return true;
            }
            for (int n = 0; n < mostLines; n++) {
                if (!readLine()) {
                    return false;
                }
                if (tape.here() == Tape.END) {
                    return true;
                }
                if (!tape.need(Tape.SIGN + ';')) {
                    return false;
                }
            }
            return tape.refuse();
        }
    }

    /** Reads LINES of THE ASSIZE into a town, which is thrown away if one is wrong. */
    private static final class AssizeText extends Text {
        static final int MOST_LINES = 14;
        static final int LATEST_TOLD_DAY = 999;

        final Town town;

        AssizeText(Tape tape, Town town) {
            super(tape, MOST_LINES);
            this.town = town;
        }

        boolean readLine() {
            switch (tape.here()) {
                case Tape.JUDGE: return readJudge();
                case Tape.CASE: return readCase();
                case Tape.LIST: return readPlace();
                case Tape.INN: return readInn();
                case Tape.HOUR:
                    town.hour = tape.needNamed(Tape.HOUR, DAY_HOURS - 1);
                    return town.hour >= 0;
                case Tape.DAY:
                    town.day = tape.needNamed(Tape.DAY, LATEST_TOLD_DAY);
                    return town.day >= 0;
                default: return tape.refuse();
            }
        }

        boolean readJudge() {
            int j = town.judges;
            if (j >= MOST_JUDGES || !tape.take(Tape.JUDGE)) {
                return tape.refuse();
            }
            int mercy = tape.needNamed(Tape.MERCY, 99);
            int nerve = mercy < 0 ? NONE : tape.needNamed(Tape.NERVE, 9);
            int hunger = nerve < 0 ? NONE : tape.maybeNamed(Tape.HUNGER, MOST_HUNGER, 0);
            int pay = hunger < 0 ? NONE : tape.maybeNamed(Tape.PAY, 99, 0);
            if (pay < 0) {
                return false;
            }
            town.mercy[j] = mercy;
            town.nerve[j] = nerve;
            town.hunger[j] = hunger;
            town.pay[j] = pay;
            town.judges = j + 1;
            return true;
        }

        boolean readCase() {
            int c = town.cases;
            if (c >= MOST_CASES || !tape.take(Tape.CASE)) {
                return tape.refuse();
            }
            int kind = tape.needFrom(Tape.LETTER, Tape.LETTER + KINDS - 1);
            int grave = kind < 0 ? NONE : tape.needNamed(Tape.GRAVE, MOST_GRAVE);
            int worth = grave < 0 ? NONE : tape.maybeNamed(Tape.WORTH, 99, 1);
            if (worth < 0) {
                return false;
            }
            boolean leaning = tape.take(Tape.ON);
            int lean = leaning ? tape.needNumber(c - 1) : NONE;
            if (leaning && lean < 0) {
                return false;
            }
            town.kinds[c] = kind;
            town.graves[c] = grave;
            town.worths[c] = worth;
            town.leans[c] = lean;
            town.cases = c + 1;
            return true;
        }

        boolean readPlace() {
            int judge = tape.needNamed(Tape.LIST, town.judges - 1);
            int hour = judge < 0 ? NONE : tape.needNumber(DAY_HOURS - 1);
            if (hour < 0) {
                return false;
            }
            int cause = tape.here();
            if (cause < 0 || cause >= town.cases || town.placeOf(cause) >= 0 || !tape.take(cause)) {
                return tape.refuse();
            }
            town.putAt(judge, hour, cause);
            return true;
        }

        boolean readInn() {
            int hour = tape.needNamed(Tape.INN, DAY_HOURS - 1);
            int crumbs = hour < 0 ? NONE : tape.needNumber(MOST_INN);
            if (crumbs < 0) {
                return false;
            }
            town.inns[hour] = crumbs;
            return true;
        }
    }

    /** Reads LINES of THE LAW into rules, which are thrown away if one is wrong. */
    private static final class LawText extends Text {
        static final int DEEPEST = 6;

        final Law rules;

        LawText(Tape tape, Law rules) {
            super(tape, Law.MOST_LINES);
            this.rules = rules;
        }

        boolean readLine() {
            int verb = tape.here();
            if (tape.needFrom(Tape.MOVE, Tape.CRUMB) < 0) {
                return false;
            }
            int amount = tape.needNumber(99);
            if (amount < 0 || tape.take(Tape.IF) && !readCondition(0)) {
                return false;
            }
            rules.closeLine(verb, amount);
            return true;
        }

        /** ATOMS with and, or between them: an and is put at once, an or when its ALL is whole. */
        private boolean readCondition(int depth) {
            boolean or = false;
            boolean and = false;
            for (int n = 0; n < TAPE_ROOM; n++) {
                if (!readAtom(depth)) {
                    return false;
                }
                if (and) {
                    rules.add(Tape.AND);
                }
                and = tape.take(Tape.AND);
                if (!and) {
                    if (or) {
                        rules.add(Tape.OR);
                    }
                    or = tape.take(Tape.OR);
                    if (!or) {
                        return true;
                    }
                }
            }
            return tape.refuse();
        }

        private boolean readAtom(int depth) {
            int thing = tape.here();
            if (thing == Tape.NOT || thing == Law.OPENS) {
                if (depth >= DEEPEST || !tape.take(thing)) {
                    return tape.refuse();
                }
                if (thing == Law.OPENS) {
                    return readCondition(depth + 1) && tape.need(Law.CLOSES);
                }
                return readAtom(depth + 1) && rules.add(Tape.NOT);
            }
            if (thing >= Tape.LEANING && thing <= Tape.LATE) {
                return tape.take(thing) && rules.add(thing);
            }
            return readComparison();
        }

        /** Part by part: SUM < SUM, or SUM > SUM. */
        private boolean readComparison() {
            int sign = NONE;
            boolean plus = false;
            for (int n = 0; n < TAPE_ROOM; n++) {
                int part = tape.needFrom(0, Tape.HOUR);
                if (part < 0) {
                    return false;
                }
                rules.add(part);
                if (plus) {
                    rules.add(Law.PLUS);
                }
                plus = tape.take(Law.PLUS);
                if (!plus && sign >= 0) {
                    return rules.add(sign);
                }
                if (!plus) {
                    sign = tape.here();
                    if (sign != Law.LESS && sign != Law.MORE || !tape.take(sign)) {
                        return tape.refuse();
                    }
                }
            }
            return tape.refuse();
        }
    }

    /** THE LAW: the things of each condition in the order in which a stack works them off. */
    private static final class Law {
        static final int MOST_LINES = 12;
        static final int OPENS = Tape.SIGN + '(';
        static final int CLOSES = Tape.SIGN + ')';
        static final int PLUS = Tape.SIGN + '+';
        static final int LESS = Tape.SIGN + '<';
        static final int MORE = Tape.SIGN + '>';

        /** The words of facts are the first, so that a fact stands in its row by its word's number. */
        static final int FACTS = Tape.LATE - Tape.WORD + 1;

        /** Seven levels keep two halves each, the innermost sums three: 17. */
        static final int STACK_ROOM = 32;

        int lines = NONE;
        int steps = 0;
        final int[] verbs = new int[MOST_LINES];
        final int[] amounts = new int[MOST_LINES];
        final int[] ends = new int[MOST_LINES];
        final int[] code = new int[TAPE_ROOM];
        final int[] stack = new int[STACK_ROOM];

        void clear() {
            lines = 0;
            steps = 0;
        }

        void copyFrom(Law other) {
            lines = other.lines;
            steps = other.steps;
            System.arraycopy(other.verbs, 0, verbs, 0, MOST_LINES);
            System.arraycopy(other.amounts, 0, amounts, 0, MOST_LINES);
            System.arraycopy(other.ends, 0, ends, 0, MOST_LINES);
            System.arraycopy(other.code, 0, code, 0, TAPE_ROOM);
        }

        /** Always true: a thing yields one step at most, so that the code has room for all of a tape. */
        boolean add(int step) {
            if (steps < TAPE_ROOM) {
                code[steps] = step;
                steps++;
            }
            return true;
        }

        void closeLine(int verb, int amount) {
            if (lines >= 0 && lines < MOST_LINES) {
                verbs[lines] = verb;
                amounts[lines] = amount;
                ends[lines] = steps;
                lines++;
            }
        }

        /** The sum of N of all LINES of a verb that hold. */
        int sumOf(int verb, int[] facts) {
            int sum = 0;
            int from = 0;
            for (int i = 0; i < lines; i++) {
                if (verbs[i] == verb && holds(from, ends[i], facts)) {
                    sum += amounts[i];
                }
                from = ends[i];
            }
            return sum;
        }

        /** Whether a condition holds; one without steps does. */
        boolean holds(int from, int to, int[] facts) {
            int top = 0;
            for (int i = from; i < to; i++) {
                int step = code[i];
                int fact = step - Tape.WORD;
                if (fact < FACTS) {
                    if (top < STACK_ROOM) {
                        stack[top] = fact < 0 ? step : facts[fact];
                        top++;
                    }
                } else if (step == Tape.NOT) {
                    if (top >= 1) {
                        stack[top - 1] = 1 - stack[top - 1];
                    }
                } else if (top >= 2) {
                    top--;
                    int left = stack[top - 1];
                    int right = stack[top];
                    switch (step) {
                        case PLUS: stack[top - 1] = left + right; break;
                        case LESS: stack[top - 1] = left < right ? 1 : 0; break;
                        case MORE: stack[top - 1] = left > right ? 1 : 0; break;
                        case Tape.AND: stack[top - 1] = left & right; break;
                        default: stack[top - 1] = left | right; break;
                    }
                }
            }
            return top == 0 || stack[0] != 0;
        }
    }

    /** THE LOG: the latest rows, the oldest given up for a new one. */
    private static final class Log {
        static final int MOST_ROWS = 60;
        static final int WIDTH = 6;
        static final int DAY = 0;
        static final int CASE = 2;

        final int[] cells = new int[MOST_ROWS * WIDTH];
        int first = 0;
        int size = 0;

        void copyFrom(Log other) {
            first = other.first;
            size = other.size;
            System.arraycopy(other.cells, 0, cells, 0, MOST_ROWS * WIDTH);
        }

        void write(int day, int hour, int cause, int how, int judge, int point) {
            int row = (first + size) % MOST_ROWS * WIDTH;
            if (size < MOST_ROWS) {
                size++;
            } else {
                first = (first + 1) % MOST_ROWS;
            }
            cells[row] = day;
            cells[row + 1] = hour;
            cells[row + 2] = cause;
            cells[row + 3] = how;
            cells[row + 4] = judge;
            cells[row + 5] = point;
        }

        int look(int ago, int what) {
            if (ago < 0 || ago >= size || what < 0 || what >= WIDTH) {
                return NO_ROW;
            }
            return cells[(first + size - 1 - ago) % MOST_ROWS * WIDTH + what];
        }

        int rowsOf(int cause) {
            int rows = 0;
            for (int ago = 0; ago < size; ago++) {
                if (look(ago, CASE) == cause) {
                    rows++;
                }
            }
            return rows;
        }

        int latestDayOf(int cause) {
            for (int ago = 0; ago < size; ago++) {
                if (look(ago, CASE) == cause) {
                    return look(ago, DAY);
                }
            }
            return NONE;
        }
    }

    /** All that an act may change and a text may tell, but for THE LAW. */
    private static final class Town {
        int judges = 0;
        int cases = 0;
        int texts = 0;
        int hour = 0;
        int day = 0;
        int seed = 1;
        final int[] hunger = new int[MOST_JUDGES];
        final int[] mercy = new int[MOST_JUDGES];
        final int[] nerve = new int[MOST_JUDGES];
        final int[] pay = new int[MOST_JUDGES];
        final int[] kinds = new int[MOST_CASES];
        final int[] graves = new int[MOST_CASES];
        final int[] worths = new int[MOST_CASES];
        final int[] leans = new int[MOST_CASES];
        final int[] states = new int[MOST_CASES];
        final int[] by = new int[MOST_CASES];
        final int[] days = new int[MOST_CASES];
        final int[] places = new int[PLACES];
        final int[] inns = new int[DAY_HOURS];
        final Log rows = new Log();

        Town() {
            Arrays.fill(leans, NONE);
            Arrays.fill(by, NONE);
            Arrays.fill(days, NONE);
            Arrays.fill(places, NONE);
        }

        void copyFrom(Town other) {
            judges = other.judges;
            cases = other.cases;
            texts = other.texts;
            hour = other.hour;
            day = other.day;
            seed = other.seed;
            System.arraycopy(other.hunger, 0, hunger, 0, MOST_JUDGES);
            System.arraycopy(other.mercy, 0, mercy, 0, MOST_JUDGES);
            System.arraycopy(other.nerve, 0, nerve, 0, MOST_JUDGES);
            System.arraycopy(other.pay, 0, pay, 0, MOST_JUDGES);
            System.arraycopy(other.kinds, 0, kinds, 0, MOST_CASES);
            System.arraycopy(other.graves, 0, graves, 0, MOST_CASES);
            System.arraycopy(other.worths, 0, worths, 0, MOST_CASES);
            System.arraycopy(other.leans, 0, leans, 0, MOST_CASES);
            System.arraycopy(other.states, 0, states, 0, MOST_CASES);
            System.arraycopy(other.by, 0, by, 0, MOST_CASES);
            System.arraycopy(other.days, 0, days, 0, MOST_CASES);
            System.arraycopy(other.places, 0, places, 0, PLACES);
            System.arraycopy(other.inns, 0, inns, 0, DAY_HOURS);
            rows.copyFrom(other.rows);
        }

        int caseAt(int judge, int hour) {
            return places[judge * DAY_HOURS + hour];
        }

        /** The CASE that stands there and waits; NONE. */
        int waitingAt(int judge, int hour) {
            int c = caseAt(judge, hour);
            return c >= 0 && states[c] == WAITING ? c : NONE;
        }

        int placeOf(int cause) {
            for (int p = 0; p < PLACES; p++) {
                if (places[p] == cause) {
                    return p;
                }
            }
            return NONE;
        }

        void takeOff(int cause) {
            int p = placeOf(cause);
            if (p >= 0) {
                places[p] = NONE;
            }
        }

        void putAt(int judge, int hour, int cause) {
            places[judge * DAY_HOURS + hour] = cause;
        }

        void takeOffAllFound() {
            for (int p = 0; p < PLACES; p++) {
                int c = places[p];
                if (c >= 0 && states[c] != WAITING) {
                    places[p] = NONE;
                }
            }
        }

        int freeHours(int judge) {
            int set = 0;
            for (int h = 0; h < DAY_HOURS; h++) {
                if (caseAt(judge, h) < 0) {
                    set |= 1 << h;
                }
            }
            return set;
        }

        int inList() {
            int set = 0;
            for (int p = 0; p < PLACES; p++) {
                if (places[p] >= 0) {
                    set |= 1 << places[p];
                }
            }
            return set;
        }

        int inState(int state) {
            int set = 0;
            for (int c = 0; c < cases; c++) {
                if (states[c] == state) {
                    set |= 1 << c;
                }
            }
            return set;
        }

        int worthOf(int set) {
            int sum = 0;
            for (int c = 0; c < cases; c++) {
                if ((set >> c & 1) != 0) {
                    sum += worths[c];
                }
            }
            return sum;
        }

        int hungerOfAll() {
            int sum = 0;
            for (int j = 0; j < judges; j++) {
                sum += hunger[j];
            }
            return sum;
        }

        int shareOf(int judge) {
            int all = 0;
            int his = 0;
            for (int c = 0; c < cases; c++) {
                if (states[c] == FREED) {
                    all++;
                    his += by[c] == judge ? 1 : 0;
                }
            }
            return all == 0 ? 0 : his * 100 / all;
        }

        /** One pass is enough: a CASE leans on a lesser number only. */
        int leaningOn(int cause) {
            int set = 1 << cause;
            for (int c = cause + 1; c < cases; c++) {
                if (leans[c] >= 0 && (set >> leans[c] & 1) != 0) {
                    set |= 1 << c;
                }
            }
            return set;
        }

        /** How many CASES stand one on another from a CASE down to one that leans on none. */
        int chainTo(int cause) {
            int chain = 0;
            int c = cause;
            while (c >= 0 && chain < MOST_CASES) {
                chain++;
                c = leans[c];
            }
            return chain;
        }

        /** The CASES that crumbs of a JUDGE would undo now. */
        int crumbling(int judge) {
            int found = inState(FREED) | inState(HANGED);
            int set = 0;
            for (int c = 0; c < cases; c++) {
                if ((found >> c & 1) != 0 && by[c] == judge && days[c] == day) {
                    set |= leaningOn(c);
                }
            }
            return set & found;
        }
    }

    /** What JUDGES find, would find and could be told by, of a town under rules. */
    private static final class Court {
        final Town town;
        final Law rules;
        final int[] facts = new int[Law.FACTS];

        Court(Town town, Law rules) {
            this.town = town;
            this.rules = rules;
        }

        void tellFacts(int judge, int cause, int hour, int hunger) {
            boolean told = cause >= 0;
            int lean = told ? town.leans[cause] : NONE;
            facts[Tape.JUDGE - Tape.WORD] = judge;
            facts[Tape.HUNGER - Tape.WORD] = hunger;
            facts[Tape.NERVE - Tape.WORD] = town.nerve[judge];
            facts[Tape.KIND - Tape.WORD] = told ? town.kinds[cause] : KINDS;
            facts[Tape.GRAVE - Tape.WORD] = told ? town.graves[cause] : 0;
            facts[Tape.WORTH - Tape.WORD] = told ? town.worths[cause] : 0;
            facts[Tape.HOUR - Tape.WORD] = hour;
            facts[Tape.LEANING - Tape.WORD] = lean >= 0 ? 1 : 0;
            facts[Tape.PRECEDENT - Tape.WORD] = lean >= 0 && town.states[lean] == FREED ? 1 : 0;
            facts[Tape.LATE - Tape.WORD] = hour >= LATE_HOUR ? 1 : 0;
        }

        /** POINT, with a hunger and a grave that may be other than those that are. */
        int weigh(int judge, int cause, int hour, int hunger, int grave) {
            tellFacts(judge, cause, hour, hunger);
            facts[Tape.GRAVE - Tape.WORD] = grave;
            return hunger + town.mercy[judge] + rules.sumOf(Tape.MOVE, facts)
                    - grave - rules.sumOf(Tape.HARDEN, facts);
        }

        int crumbsOf(int judge, int cause) {
            tellFacts(judge, cause, town.hour, town.hunger[judge]);
            int likely = town.inns[town.hour] + rules.sumOf(Tape.CRUMB, facts) - 10 * town.nerve[judge];
            return Math.max(0, likely);
        }

        int pointOf(int judge, int cause, int hour) {
            return weigh(judge, cause, hour, town.hunger[judge], town.graves[cause]);
        }

        int wouldBe(int judge, int cause, int hour) {
            int more = Math.max(0, hour - town.hour);
            int hunger = Math.min(MOST_HUNGER, town.hunger[judge] + more);
            return weigh(judge, cause, hour, hunger, town.graves[cause]);
        }

        boolean freesNow(int judge, int cause) {
            return weigh(judge, cause, town.hour, town.hunger[judge], town.graves[cause]) >= 0;
        }

        /** By how many JUDGES a CASE would be freed in HOUR. */
        int freeingNow(int cause) {
            int freeing = 0;
            for (int j = 0; j < town.judges; j++) {
                if (freesNow(j, cause)) {
                    freeing++;
                }
            }
            return freeing;
        }

        int harshness(int judge) {
            int hanged = 0;
            for (int c = 0; c < town.cases; c++) {
                if (town.states[c] == WAITING && !freesNow(judge, c)) {
                    hanged++;
                }
            }
            return hanged;
        }

        int firstFreeing(int judge, int cause, int from) {
            for (int h = from; h < DAY_HOURS; h++) {
                if (wouldBe(judge, cause, h) >= 0) {
                    return h;
                }
            }
            return NONE;
        }

        int benchFor(int cause) {
            int best = NONE;
            int first = DAY_HOURS;
            for (int j = 0; j < town.judges; j++) {
                int h = firstFreeing(j, cause, town.hour);
                if (h >= 0 && h < first) {
                    first = h;
                    best = j;
                }
            }
            return best;
        }

        int delayOf(int cause) {
            int place = town.placeOf(cause);
            int hour = place % DAY_HOURS;
            if (place < 0 || hour < town.hour || town.states[cause] != WAITING) {
                return NONE;
            }
            int then = firstFreeing(place / DAY_HOURS, cause, hour);
            return then < 0 ? NONE : then - hour;
        }

        int bestAppeal() {
            int best = NONE;
            int most = 0;
            for (int c = 0; c < town.cases; c++) {
                boolean lost = town.states[c] == HANGED || town.states[c] == UNDONE;
                int gain = town.worths[c] - town.graves[c] / 10;
                if (lost && (best < 0 || gain > most) && freeingNow(c) > 0) {
                    best = c;
                    most = gain;
                }
            }
            return best;
        }

        int movingHunger(int judge, int cause) {
            for (int hunger = 0; hunger <= MOST_HUNGER; hunger++) {
                if (weigh(judge, cause, town.hour, hunger, town.graves[cause]) >= 0) {
                    return hunger;
                }
            }
            return NONE;
        }

        int hangingGrave(int judge, int cause) {
            for (int grave = 0; grave <= MOST_GRAVE; grave++) {
                if (weigh(judge, cause, town.hour, town.hunger[judge], grave) < 0) {
                    return grave;
                }
            }
            return NONE;
        }

        /** Whether one whose HUNGER in HOUR 0 was that would free a CASE in an HOUR. */
        boolean freesHaving(int firstHunger, int judge, int cause, int hour) {
            int hunger = Math.min(MOST_HUNGER, firstHunger + hour);
            return weigh(judge, cause, hour, hunger, town.graves[cause]) >= 0;
        }

        /** The first HUNGERS that fit all rows (HOUR, CASE, freed or not), as bits. */
        long fittingHungers(int judge, int[] rows, int length) {
            long fits = 0;
            for (int hunger = 0; hunger < FIRST_HUNGERS; hunger++) {
                boolean fit = true;
                for (int i = 0; i + 2 < length && fit; i += 3) {
                    fit = freesHaving(hunger, judge, rows[i + 1], rows[i]) == (rows[i + 2] == 1);
                }
                if (fit) {
                    fits |= 1L << hunger;
                }
            }
            return fits;
        }

        int bestTry(int judge, long fits) {
            int best = NONE;
            int all = Long.bitCount(fits);
            int least = all + 1;
            for (int c = 0; c < town.cases && all >= 2; c++) {
                if (town.states[c] == WAITING) {
                    int freeing = freeingOf(judge, c, fits);
                    int greater = Math.max(freeing, all - freeing);
                    if (greater < least) {
                        least = greater;
                        best = c;
                    }
                }
            }
            return best;
        }

        /** Of how many first HUNGERS a CASE would be freed in HOUR. */
        int freeingOf(int judge, int cause, long fits) {
            int freeing = 0;
            for (int hunger = 0; hunger < FIRST_HUNGERS; hunger++) {
                if ((fits >> hunger & 1L) != 0 && freesHaving(hunger, judge, cause, town.hour)) {
                    freeing++;
                }
            }
            return freeing;
        }
    }

    /** HOURS that go on in a town. */
    private static final class Sitting {
        final Town town;
        final Court court;
        /** The CASE that each JUDGE heard in the HOUR, which his crumbs ask for. */
        final int[] heard = new int[MOST_JUDGES];

        Sitting(Town town, Court court) {
            this.town = town;
            this.court = court;
        }

        /** So many HOURS more: how many CASES were heard. */
        int goOn(int hours, boolean crumbs) {
            int sum = 0;
            for (int i = 0; i < hours; i++) {
                sum += hearAll();
                growHungry();
                if (crumbs) {
                    drawCrumbs();
                }
                turnHour();
            }
            return sum;
        }

        int hearAll() {
            int sum = 0;
            for (int j = 0; j < town.judges; j++) {
                int c = town.waitingAt(j, town.hour);
                heard[j] = c;
                if (c >= 0) {
                    find(j, c, court.pointOf(j, c, town.hour));
                    sum++;
                }
            }
            return sum;
        }

        void find(int judge, int cause, int point) {
            int found = point >= 0 ? FREED : HANGED;
            town.states[cause] = found;
            town.by[cause] = judge;
            town.days[cause] = town.day;
            town.rows.write(town.day, town.hour, cause, found - FREED, judge, point);
        }

        void growHungry() {
            for (int j = 0; j < town.judges; j++) {
                town.hunger[j] = Math.min(MOST_HUNGER, town.hunger[j] + 1);
            }
        }

        void drawCrumbs() {
            for (int j = 0; j < town.judges; j++) {
                int crumbs = court.crumbsOf(j, heard[j]);
                if (nextDraw() % 100 < crumbs) {
                    town.hunger[j] = 0;
                    undoFindings(j);
                }
            }
        }

        int nextDraw() {
            town.seed = town.seed * 1103515245 + 12345;
            return town.seed >> 16 & 32767;
        }

        void undoFindings(int judge) {
            int set = town.crumbling(judge);
            for (int c = 0; c < town.cases; c++) {
                if ((set >> c & 1) != 0) {
                    town.states[c] = UNDONE;
                    town.rows.write(town.day, town.hour, c, UNDONE - FREED, judge, 0);
                }
            }
        }

        void turnHour() {
            town.hour++;
            if (town.hour >= DAY_HOURS) {
                town.hour = 0;
                town.day = Math.min(LATEST_DAY, town.day + 1);
                town.takeOffAllFound();
            }
        }
    }

    /** Who goes with what: CASES and places, JUDGES and CIRCUITS, JUDGES two by two, a JUDGE and a cook. */
    private static final class Matches {
        final Town town;
        final Court court;
        /** The places where each CASE would be freed, as bits. */
        final long[] open = new long[MOST_CASES];
        final int[] gathered = new int[MOST_JUDGES];
        final int[] freeing = new int[MOST_JUDGES];
        final int[] partners = new int[MOST_JUDGES];
        final int[] bestPartners = new int[MOST_JUDGES];
        int bestTotal = 0;

        Matches(Town town, Court court) {
            this.town = town;
            this.court = court;
        }

        /** SAVED, by the places that are open. */
        int savedCases() {
            int waiting = town.inState(WAITING);
            int asked = 0;
            int set = 0;
            for (int n = 0; n < town.cases; n++) {
                int c = worthiest(waiting & ~asked);
                if (c >= 0) {
                    asked |= 1 << c;
                    if (haveRoom(set | 1 << c, -1L)) {
                        set |= 1 << c;
                    }
                }
            }
            return set;
        }

        /** In how few HOURS all of a set have places that are open. */
        int hoursFor(int set) {
            long hours = 0;
            if (set == 0) {
                return 0;
            }
            for (int h = town.hour; h < DAY_HOURS; h++) {
                for (int j = 0; j < town.judges; j++) {
                    hours |= 1L << j * DAY_HOURS + h;
                }
                if (haveRoom(set, hours)) {
                    return h - town.hour + 1;
                }
            }
            return 0;
        }

        void openPlaces() {
            for (int c = 0; c < town.cases; c++) {
                open[c] = 0;
                for (int j = 0; j < town.judges && town.states[c] == WAITING; j++) {
                    for (int h = town.hour; h < DAY_HOURS; h++) {
                        if (court.wouldBe(j, c, h) >= 0) {
                            open[c] |= 1L << j * DAY_HOURS + h;
                        }
                    }
                }
            }
        }

        int worthiest(int set) {
            int best = NONE;
            for (int c = 0; c < town.cases; c++) {
                if ((set >> c & 1) != 0 && (best < 0 || town.worths[c] > town.worths[best])) {
                    best = c;
                }
            }
            return best;
        }

        /** All of a set have places of their own if no part of it has fewer places than CASES (Hall). */
        boolean haveRoom(int set, long among) {
            for (int part = 1; part <= set; part++) {
                boolean within = (part & ~set) == 0;
                if (within && Long.bitCount(openFor(part) & among) < Integer.bitCount(part)) {
                    return false;
                }
            }
            return true;
        }

        long openFor(int set) {
            long places = 0;
            for (int c = 0; c < town.cases; c++) {
                if ((set >> c & 1) != 0) {
                    places |= open[c];
                }
            }
            return places;
        }

        int shareJudge(int cause) {
            if (town.states[cause] != WAITING) {
                return NONE;
            }
            Arrays.fill(gathered, 0);
            int judge = NONE;
            for (int c = 0; c <= cause; c++) {
                if (town.states[c] == WAITING) {
                    judge = leastGathered();
                    if (judge >= 0) {
                        gathered[judge] += town.graves[c];
                    }
                }
            }
            return judge;
        }

        int leastGathered() {
            int best = NONE;
            for (int j = 0; j < town.judges; j++) {
                if (best < 0 || gathered[j] < gathered[best]) {
                    best = j;
                }
            }
            return best;
        }

        /** As all CIRCUITS want the same JUDGES first, these may choose one behind another. */
        int circuitOf(int judge) {
            int placed = 0;
            int taken = 0;
            for (int n = 0; n < town.judges; n++) {
                int j = hungriestBut(placed);
                int circuit = dearestBut(j, taken);
                if (j == judge || j < 0 || circuit < 0) {
                    return circuit;
                }
                placed |= 1 << j;
                taken |= 1 << circuit;
            }
            return NONE;
        }

        int hungriestBut(int placed) {
            int best = NONE;
            for (int j = 0; j < town.judges; j++) {
                if ((placed >> j & 1) == 0 && (best < 0 || town.hunger[j] > town.hunger[best])) {
                    best = j;
                }
            }
            return best;
        }

        int dearestBut(int judge, int taken) {
            int best = NONE;
            for (int k = 0; k < CIRCUITS && judge >= 0; k++) {
                if ((taken >> k & 1) == 0 && (best < 0 || paid(judge, k) > paid(judge, best))) {
                    best = k;
                }
            }
            return best;
        }

        int paid(int judge, int circuit) {
            return circuit * 17 % 40 + (judge == circuit ? town.pay[judge] : 0);
        }

        int circuitsAheadOf(int judge, int circuit) {
            int set = 0;
            int pay = paid(judge, circuit);
            for (int k = 0; k < CIRCUITS; k++) {
                int other = paid(judge, k);
                if (other > pay || other == pay && k < circuit) {
                    set |= 1 << k;
                }
            }
            return set;
        }

        /** Finds bestTotal and bestPartners. */
        void pairAll() {
            int waiting = town.inState(WAITING);
            for (int j = 0; j < town.judges; j++) {
                freeing[j] = 0;
                for (int c = 0; c < town.cases; c++) {
                    if ((waiting >> c & 1) != 0 && court.freesNow(j, c)) {
                        freeing[j] |= 1 << c;
                    }
                }
            }
            Arrays.fill(partners, NONE);
            bestTotal = -1;
            pairFrom(0, 0);
        }

        /** Ways are tried in their order, so that of several of a like total the first stays. */
        private void pairFrom(int judge, int total) {
            if (judge >= town.judges) {
                if (total > bestTotal) {
                    bestTotal = total;
                    System.arraycopy(partners, 0, bestPartners, 0, MOST_JUDGES);
                }
                return;
            }
            pairFrom(judge + 1, total);
            for (int k = judge + 1; k < town.judges && partners[judge] < 0; k++) {
                if (partners[k] < 0) {
                    partners[judge] = k;
                    partners[k] = judge;
                    pairFrom(judge + 1, total + Integer.bitCount(freeing[judge] ^ freeing[k]));
                    partners[judge] = NONE;
                    partners[k] = NONE;
                }
            }
        }

        int restingChoices(int judge) {
            int set = 0;
            for (int choice = 0; choice < 4; choice++) {
                boolean stays = hisGain(judge, choice) >= hisGain(judge, choice ^ 2);
                if (stays && cookGain(judge, choice) >= cookGain(judge, choice ^ 1)) {
                    set |= 1 << choice;
                }
            }
            return set;
        }

        /** A choice is 2 times his (0 sits, 1 dines) and the cook's (0 bakes, 1 does not). */
        int hisGain(int judge, int choice) {
            int hungry = town.hunger[judge] / 10;
            switch (choice) {
                case 0: return hungry - 3;
                case 1: return hungry;
                case 2: return 4;
                default: return -2;
            }
        }

        int cookGain(int judge, int choice) {
            switch (choice) {
                case 0: return -1;
                case 2: return town.nerve[judge];
                default: return 0;
            }
        }
    }

    /** The towns as they were ahead of the latest acts. */
    private static final class Past {
        static final int MOST_ACTS = 12;

        final Town[] towns = new Town[MOST_ACTS];
        int first = 0;
        int size = 0;

        Past() {
            for (int i = 0; i < MOST_ACTS; i++) {
                towns[i] = new Town();
            }
        }

        void remember(Town town) {
            towns[(first + size) % MOST_ACTS].copyFrom(town);
            if (size < MOST_ACTS) {
                size++;
            } else {
                first = (first + 1) % MOST_ACTS;
            }
        }

        boolean goBack(Town town) {
            if (size <= 0) {
                return false;
            }
            size--;
            town.copyFrom(towns[(first + size) % MOST_ACTS]);
            return true;
        }

        void forget() {
            size = 0;
        }
    }
}
