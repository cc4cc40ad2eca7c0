import java.util.Arrays;
import java.util.NoSuchElementException;

/** An aqueduct of opinions: what the villages of a town put into its water, and what comes of it at the tap. */
public final class HerbWaters {
    public static final int NONE = -1;

    private static final int MOST_VILLAGES = 9;
    private static final int HERBS = 3;
    private static final int MINT = 0;
    private static final int RUE = 1;
    private static final int EIGHT = 8;
    private static final int MOST_LAG = 5;
    private static final int MOST_CUPS = 99;
    private static final int MOST_GRADE = 3;
    private static final int LAST_DAY = 999;
    private static final int MOST_IMAGES = 3;
    private static final int FED_BYTES = 20;
    private static final int SHORT_TEXT = 150;
    private static final int FAULT_BASE = 10;
    private static final int BOUNDLESS = 0x7fffffff;

    private static final int MISPLACED = 1;
    private static final int NO_SUCH_NUMBER = 2;
    private static final int TOO_MANY = 3;
    private static final int SECOND_TAP = 4;

    private final Tape tape = new Tape();
    private final Aqueduct aqueduct = new Aqueduct();
    private final Foresight foresight = new Foresight(aqueduct);
    private final Tasters tasters = new Tasters(aqueduct);
    private final Days now = new Days();
    private final Diary diary = new Diary();
    private final Days[] images = new Days[MOST_IMAGES];
    private final int[] thought = new int[HERBS];
    private Town spareTown = new Town();
    private Opinion spareOpinion = new Opinion();
    private final OpinionReader opinionReader = new OpinionReader(tape, spareOpinion);
    private Book spareBook = new Book();
    private int imageCount = 0;
    private int missing = 0;
    private int improper = 0;

    public HerbWaters() {
        for (int i = 0; i < MOST_IMAGES; i++) {
            images[i] = new Days();
        }
        now.begin(aqueduct.town);
        diary.begin(now);
    }

    public int feed(int a, int b, int c, int d, int e) {
        if (tape.filled + FED_BYTES > Tape.MOST_BYTES) {
            return NONE;
        }
        tape.append(a);
        tape.append(b);
        tape.append(c);
        tape.append(d);
        tape.append(e);
        return tape.filled;
    }

    public int town(int n) throws IllegalArgumentException {
        needIn(n, 0, tape.filled);
        tape.open(n);
        boolean sound = spareTown.read(tape);
        tape.close();
        if (!sound) {
            return tape.faultKind - FAULT_BASE;
        }
        Town former = aqueduct.town;
        aqueduct.town = spareTown;
        spareTown = former;
        aqueduct.forgetOpinions();
        tasters.book.clear();
        tasters.forget();
        imageCount = 0;
        now.begin(aqueduct.town);
        diary.begin(now);
        return aqueduct.town.villages;
    }

    public int opinion(int village, int n) throws NoSuchElementException, IllegalArgumentException {
        needVillage(village);
        needIn(n, 0, Math.min(SHORT_TEXT, tape.filled));
        tape.open(n);
        boolean sound = opinionReader.read(spareOpinion);
        tape.close();
        if (!sound) {
            return tape.faultKind - FAULT_BASE;
        }
        spareOpinion = aqueduct.tell(village, spareOpinion);
        tasters.forget();
        diary.begin(now);
        return aqueduct.opinionOf(village).parts;
    }

    public int book(int n) throws IllegalArgumentException {
        needIn(n, 0, Math.min(SHORT_TEXT, tape.filled));
        tape.open(n);
        boolean sound = spareBook.read(tape);
        tape.close();
        if (!sound) {
            return tape.faultKind - FAULT_BASE;
        }
        Book former = tasters.book;
        tasters.book = spareBook;
        spareBook = former;
        tasters.forget();
        return tasters.book.lines;
    }

    public int fault() {
        return tape.faultPlace;
    }

    public int told(int what) throws IllegalArgumentException {
        needIn(what, 0, 7);
        switch (what) {
            case 0: return aqueduct.town.villages;
            case 1: return aqueduct.town.channels;
            case 2: return aqueduct.town.tapVillage;
            case 3: return aqueduct.town.feastDay;
            case 4: return now.day;
            case 5: return now.pleased;
            case 6: return now.contrary;
            default: return tasters.book.lines;
        }
    }

    public int village(int village, int what) throws NoSuchElementException, IllegalArgumentException {
        needVillage(village);
        needIn(what, 0, 8);
        switch (what) {
            case 0: return now.waterIn(village);
            case 1:
            case 2:
            case 3: return now.herbIn(village, what - 1);
            case 4: return aqueduct.town.springs[village];
            case 5: return aqueduct.town.lags[village];
            case 6: return aqueduct.town.frogs[village];
            case 7: return aqueduct.town.partsLeft(village);
            default: return now.grades[village];
        }
    }

    public int led(int village, int herb, int by) throws NoSuchElementException, IllegalArgumentException {
        needVillage(village);
        needVillage(by);
        needIn(herb, 0, HERBS - 1);
        return now.basins[now.cell(village, herb, by)];
    }

    public int days(int n) throws IllegalArgumentException {
        needIn(n, 1, 99);
        for (int i = 0; i < n && now.day < LAST_DAY; i++) {
            aqueduct.goDay(now);
            diary.note(now);
        }
        return now.day;
    }

    public int undo(int n) throws IllegalArgumentException {
        needIn(n, 1, 99);
        int undone = Math.min(n, now.day - diary.first);
        if (undone > 0) {
            int day = now.day - undone;
            diary.goBack(now, day);
            for (int kept = now.day; kept < day; kept++) {
                aqueduct.goDay(now);
            }
        }
        return undone;
    }

    public int tap(int what) throws IllegalArgumentException {
        needIn(what, 0, 4);
        return what == 4 ? now.seen() : now.tapped[what];
    }

    public int sums(int what) throws IllegalArgumentException {
        needIn(what, 0, 4);
        switch (what) {
            case 0: return now.sumOf(now.puts);
            case 1: return now.sumOf(now.came);
            case 2: return now.gardens;
            case 3: return now.taken;
            default: return now.herbsInBasins();
        }
    }

    public int put(int village, int what) throws NoSuchElementException, IllegalArgumentException {
        needVillage(village);
        needIn(what, 0, 2 * HERBS - 1);
        if (what < HERBS) {
            return now.puts[village * HERBS + what];
        }
        return now.came[village * HERBS + what - HERBS];
    }

    public int thinks(int village, int herb, int water, int mint, int rue, int sage, int day)
            throws NoSuchElementException, IllegalArgumentException {
        needVillage(village);
        needIn(herb, 0, HERBS - 1);
        needIn(water, 0, 9999);
        needIn(mint, 0, 9999);
        needIn(rue, 0, 9999);
        needIn(sage, 0, 9999);
        needIn(day, 0, LAST_DAY);
        aqueduct.lookInto(mint, rue, sage, water);
        aqueduct.thinkOf(village, day, 0, thought);
        return thought[herb];
    }

    public int view(int days) throws IllegalArgumentException {
        needIn(days, 0, 99);
        return foresight.after(now, days).seen();
    }

    public int ahead(int village, int days, int what) throws NoSuchElementException, IllegalArgumentException {
        needVillage(village);
        needIn(days, 0, 99);
        needIn(what, 0, HERBS);
        Days then = foresight.after(now, days);
        return what == 0 ? then.waterIn(village) : then.herbIn(village, what - 1);
    }

    public int when(int view) throws IllegalArgumentException {
        needIn(view, 0, 7);
        return foresight.firstSeen(now, view);
    }

    public int please(int villages) throws IllegalArgumentException {
        needSet(villages);
        int former = now.pleased;
        now.pleased = villages;
        diary.begin(now);
        return former;
    }

    public int contrary(int villages) throws IllegalArgumentException {
        needSet(villages);
        int former = now.contrary;
        now.contrary = villages;
        diary.begin(now);
        return former;
    }

    public int whom(int days) throws IllegalArgumentException {
        needIn(days, 1, 60);
        return foresight.leastPleased(now, days);
    }

    public int feast() {
        int days = aqueduct.town.feastDay - now.day;
        return days < 1 || days > 60 ? NONE : foresight.leastPleased(now, days);
    }

    public int filters(int village, int herb, int days) throws NoSuchElementException, IllegalArgumentException {
        needVillage(village);
        needIn(herb, 0, HERBS - 1);
        needIn(days, 1, 60);
        return foresight.leastFilter(now, village, herb, days);
    }

    public int minds(int what) throws IllegalArgumentException {
        needIn(what, 0, 3);
        tasters.study();
        switch (what) {
            case 0: return tasters.setCount;
            case 1: return tasters.firstSet;
            case 2: return tasters.inAll;
            default: return tasters.inNone;
        }
    }

    public int right() {
        return tasters.linesRight(now.contrary);
    }

    public int where(int day) throws IllegalArgumentException {
        needIn(day, 1, 60);
        return tasters.fewestTastes(day);
    }

    public int tasted(int village, int day) throws NoSuchElementException, IllegalArgumentException {
        needVillage(village);
        needIn(day, 1, 60);
        return tasters.basinsOf(village, day);
    }

    public int round(int what) throws IllegalArgumentException {
        needIn(what, 0, 1);
        foresight.findRound(now);
        return what == 0 ? foresight.roundDays : foresight.roundAgo;
    }

    public int grade(int village, int grade) throws NoSuchElementException, IllegalArgumentException {
        needVillage(village);
        needIn(grade, 0, MOST_GRADE);
        int former = now.grades[village];
        now.grades[village] = grade;
        diary.begin(now);
        return former;
    }

    public int loss(int village, int days, int c, int what) throws NoSuchElementException, IllegalArgumentException {
        needVillage(village);
        needGame(days, c);
        needIn(what, 0, 1);
        if (what == 0) {
            return foresight.lossWith(now, village, now.grades[village], days, c, BOUNDLESS);
        }
        return foresight.wishOf(now, village, days, c);
    }

    public int rest(int days, int c) throws IllegalArgumentException {
        needGame(days, c);
        int rests = foresight.settle(now, days, c);
        diary.begin(now);
        return rests;
    }

    public int drought(int seed, int q, int days, int what) throws IllegalArgumentException {
        needDrought(q, days);
        needIn(what, 0, 1);
        int water = foresight.droughtWater(now, seed, q, days);
        return what == 0 ? foresight.trial.seen() : water;
    }

    public int span(int seed, int many, int q, int days, int what) throws IllegalArgumentException {
        needIn(many, 1, 30);
        needDrought(q, days);
        needIn(what, 0, 2);
        int clear = 0;
        int least = BOUNDLESS;
        int most = 0;
        for (int i = 0; i < many; i++) {
            int water = foresight.droughtWater(now, seed + i, q, days);
            clear += foresight.trial.seen() == 0 ? 1 : 0;
            least = Math.min(least, water);
            most = Math.max(most, water);
        }
        return what == 0 ? clear : what == 1 ? least : most;
    }

    public int image() {
        if (imageCount >= MOST_IMAGES) {
            return NONE;
        }
        images[imageCount].copyFrom(now);
        imageCount++;
        return imageCount;
    }

    public int restore() {
        if (imageCount <= 0) {
            return NONE;
        }
        imageCount--;
        now.copyFrom(images[imageCount]);
        diary.begin(now);
        return imageCount;
    }

    public int status(int what) {
        return what == 0 ? missing : what == 1 ? improper : NONE;
    }

    public int count(int what) {
        switch (what) {
            case 0: return imageCount;
            case 1: return tape.filled;
            case 2: return now.day - diary.first;
            default: return NONE;
        }
    }

    private void needVillage(int village) {
        if (village < 0 || village >= aqueduct.town.villages) {
            missing++;
            throw new NoSuchElementException("no such village");
        }
    }

    private void needIn(int number, int least, int most) {
        if (number < least || number > most) {
            improper++;
            throw new IllegalArgumentException("no such number");
        }
    }

    private void needSet(int villages) {
        needIn(villages, 0, aqueduct.town.allBits());
    }

    private void needGame(int days, int c) {
        needIn(days, 1, 30);
        needIn(c, 0, 99);
    }

    private void needDrought(int q, int days) {
        needIn(q, 0, 16);
        needIn(days, 1, 60);
    }

    /** The words of all texts; asked is the place in what a village looks at, the first three being the herbs. */
    private enum Word {
        MINT("mint", 0, false), RUE("rue", 1, false), SAGE("sage", 2, false),
        WATER("water", 3, false), DAY("day", 4, false), PUT("put", 5, false), SPRING("spring", 6, true),
        VILLAGE("village", NONE, true), CHANNEL("channel", NONE, true), TAP("tap", NONE, true),
        LEAK("leak", NONE, true), LAG("lag", NONE, true), FROG("frog", NONE, true),
        FILTER("filter", NONE, true), FEAST("feast", NONE, true),
        IF("if", NONE, false), OR("or", NONE, false), AND("and", NONE, false), NOT("not", NONE, false),
        OTHER("", NONE, false);

        private static final Word[] ALL = values();

        private final String text;
        private final int asked;
        private final boolean beginsClause;

        Word(String text, int asked, boolean beginsClause) {
            this.text = text;
            this.asked = asked;
            this.beginsClause = beginsClause;
        }

        boolean isHerb() {
            return asked >= 0 && asked < HERBS;
        }
    }

    /** The bytes that were fed, and a reader that goes along the first of them and holds the latest fault. */
    private static final class Tape {
        static final int MOST_BYTES = 600;
        /** Far above every number of a text, and so low that another digit does not wrap. */
        private static final int HUGE = 1000000;

        private final byte[] bytes = new byte[MOST_BYTES];
        private int filled = 0;
        private int length = 0;
        private int at = 0;
        private int start = 0;
        private int faultKind = 0;
        private int faultPlace = NONE;

        void append(int four) {
            for (int shift = 24; shift >= 0 && filled < MOST_BYTES; shift -= 8) {
                bytes[filled] = (byte) (four >> shift);
                filled++;
            }
        }

        void open(int n) {
            length = Math.min(n, filled);
            at = 0;
            start = 0;
            faultKind = 0;
            faultPlace = NONE;
        }

        void close() {
            filled = 0;
        }

        /** Notes a fault at the token read last; answers false, so that a reader can end with it. */
        boolean fails(int kind) {
            faultKind = kind;
            faultPlace = start;
            return false;
        }

        /** Goes to the next token's first byte. */
        private void seek() {
            while (at < length && bytes[at] == ' ') {
                at++;
            }
            start = at;
        }

        boolean isEnded() {
            seek();
            return at >= length;
        }

        boolean sign(char due) {
            seek();
            if (at < length && bytes[at] == due) {
                at++;
                return true;
            }
            return false;
        }

        boolean needSign(char due) {
            return sign(due) || fails(MISPLACED);
        }

        Word nextWord() {
            seek();
            while (at < length && bytes[at] >= 'a' && bytes[at] <= 'z') {
                at++;
            }
            for (Word word : Word.ALL) {
                if (stands(word.text)) {
                    return word;
                }
            }
            return Word.OTHER;
        }

        private boolean stands(String text) {
            if (text.length() != at - start) {
                return false;
            }
            for (int i = 0; i < text.length(); i++) {
                if (bytes[start + i] != text.charAt(i)) {
                    return false;
                }
            }
            return true;
        }

        /** Goes past a word if it is the due one, else stays ahead of it. */
        boolean takes(Word due) {
            if (nextWord() == due) {
                return true;
            }
            at = start;
            return false;
        }

        boolean isDigit() {
            return at < length && bytes[at] >= '0' && bytes[at] <= '9';
        }

        /** A number of this range, or NONE and a fault. */
        int numberIn(int least, int most) {
            seek();
            if (!isDigit()) {
                fails(MISPLACED);
                return NONE;
            }
            int number = 0;
            while (at < length && isDigit()) {
                number = Math.min(number * 10 + (bytes[at] - '0'), HUGE);
                at++;
            }
            if (number < least || number > most) {
                fails(NO_SUCH_NUMBER);
                return NONE;
            }
            return number;
        }

        /** A herb's number, or NONE and a fault. */
        int nextHerb() {
            Word word = nextWord();
            if (!word.isHerb()) {
                fails(MISPLACED);
                return NONE;
            }
            return word.asked;
        }
    }

    /** A town as it was told. */
    private static final class Town {
        private static final int MOST_CLAUSES = 60;
        private static final int MOST_CHANNELS = 20;
        private static final int LAST_FEAST = 60;
        private static final int USUAL_FEAST = 20;

        private final int[] waters = new int[MOST_VILLAGES];
        private final int[] springs = new int[MOST_VILLAGES];
        private final int[] leaks = new int[MOST_VILLAGES];
        private final int[] lags = new int[MOST_VILLAGES];
        private final int[] frogs = new int[MOST_VILLAGES];
        /** Parts of each village that go along channels and to the tap. */
        private final int[] given = new int[MOST_VILLAGES];
        private final int[] strainers = new int[MOST_VILLAGES * HERBS];
        private final int[] from = new int[MOST_CHANNELS];
        private final int[] to = new int[MOST_CHANNELS];
        private final int[] parts = new int[MOST_CHANNELS];
        private int villages = 0;
        private int channels = 0;
        private int tapVillage = NONE;
        private int tapParts = 0;
        private int feastDay = USUAL_FEAST;

        private void clear() {
            villages = 0;
            channels = 0;
            tapVillage = NONE;
            tapParts = 0;
            feastDay = USUAL_FEAST;
            Arrays.fill(springs, 0);
            Arrays.fill(leaks, 0);
            Arrays.fill(lags, 0);
            Arrays.fill(frogs, 0);
            Arrays.fill(given, 0);
            Arrays.fill(strainers, 0);
        }

        int allBits() {
            return (1 << villages) - 1;
        }

        int partsLeft(int village) {
            return EIGHT - given[village] - leaks[village];
        }

        boolean read(Tape tape) {
            clear();
            for (int clause = 0; clause <= MOST_CLAUSES; clause++) {
                if (tape.isEnded()) {
                    return true;
                }
                if (!readClause(tape, clause) || !tape.needSign(';')) {
                    return false;
                }
            }
            return false;
        }

        private boolean readClause(Tape tape, int clause) {
            Word word = tape.nextWord();
            if (!word.beginsClause) {
                return tape.fails(MISPLACED);
            }
            if (clause >= MOST_CLAUSES) {
                return tape.fails(TOO_MANY);
            }
            return readRest(tape, word);
        }

        /** What stands behind a clause's word. */
        private boolean readRest(Tape tape, Word word) {
            if (word == Word.VILLAGE) {
                return readVillage(tape);
            }
            if (word == Word.FEAST) {
                return readFeast(tape);
            }
            if (word == Word.TAP && tapVillage != NONE) {
                return tape.fails(SECOND_TAP);
            }
            if (word == Word.CHANNEL && channels >= MOST_CHANNELS) {
                return tape.fails(TOO_MANY);
            }
            int village = tape.numberIn(0, villages - 1);
            if (village == NONE) {
                return false;
            }
            if (word == Word.CHANNEL) {
                return readChannel(tape, village);
            }
            if (word == Word.FILTER) {
                return readFilter(tape, village);
            }
            return readNumberOf(tape, word, village);
        }

        /** Clauses of one village and at most one number. */
        private boolean readNumberOf(Tape tape, Word word, int village) {
            if (word == Word.FROG) {
                frogs[village] = 1;
                return true;
            }
            int least = word == Word.TAP ? 1 : 0;
            int most = word == Word.TAP ? partsLeft(village) : word == Word.LEAK ? EIGHT - given[village]
                    : word == Word.LAG ? MOST_LAG : MOST_CUPS;
            int number = tape.numberIn(least, most);
            if (number == NONE) {
                return false;
            }
            if (word == Word.TAP) {
                tapVillage = village;
                tapParts = number;
                given[village] += number;
            } else if (word == Word.LEAK) {
                leaks[village] = number;
            } else if (word == Word.LAG) {
                lags[village] = number;
            } else {
                springs[village] = number;
            }
            return true;
        }

        private boolean readVillage(Tape tape) {
            if (villages >= MOST_VILLAGES) {
                return tape.fails(TOO_MANY);
            }
            int water = tape.numberIn(0, MOST_CUPS);
            if (water == NONE) {
                return false;
            }
            waters[villages] = water;
            villages++;
            return true;
        }

        private boolean readChannel(Tape tape, int source) {
            int goal = tape.numberIn(0, villages - 1);
            if (goal == NONE) {
                return false;
            }
            int share = tape.numberIn(1, partsLeft(source));
            if (share == NONE) {
                return false;
            }
            from[channels] = source;
            to[channels] = goal;
            parts[channels] = share;
            channels++;
            given[source] += share;
            return true;
        }

        private boolean readFilter(Tape tape, int village) {
            int herb = tape.nextHerb();
            if (herb == NONE) {
                return false;
            }
            int cups = tape.numberIn(0, MOST_CUPS);
            if (cups == NONE) {
                return false;
            }
            strainers[village * HERBS + herb] = cups;
            return true;
        }

        private boolean readFeast(Tape tape) {
            int day = tape.numberIn(0, LAST_FEAST);
            if (day == NONE) {
                return false;
            }
            feastDay = day;
            return true;
        }
    }

    /** An opinion as steps for a stack: numbers, things looked at, signs that join, and ends of parts. */
    private static final class Opinion {
        /** How many things a village looks at: the herbs, water, day, put, spring. */
        static final int SIGHTS = 7;
        /** Steps below it are numbers. */
        static final int LOOK = 1000;
        static final int ADD = LOOK + SIGHTS;
        static final int SUBTRACT = ADD + 1;
        static final int MULTIPLY = ADD + 2;
        static final int DIVIDE = ADD + 3;
        static final int LESS = ADD + 4;
        static final int MORE = ADD + 5;
        static final int SAME = ADD + 6;
        static final int AND = ADD + 7;
        static final int OR = ADD + 8;
        static final int NOT = ADD + 9;
        /** The end of a part that puts a herb, and behind these the same if its condition is so. */
        static final int PUT = NOT + 1;
        static final int PUT_IF = PUT + HERBS;
        private static final int MOST_STEPS = 160;
        /** Six brackets open at two values each, and what stands outside of them, need some twenty. */
        private static final int MOST_VALUES = 64;

        private final int[] steps = new int[MOST_STEPS];
        private final int[] values = new int[MOST_VALUES];
        private int length = 0;
        private int parts = 0;
        private int herbBits = 0;
        private boolean asksDay = false;

        void clear() {
            length = 0;
            parts = 0;
            herbBits = 0;
            asksDay = false;
        }

        void add(int step) {
            if (length < MOST_STEPS) {
                steps[length] = step;
                length++;
            }
        }

        void addLook(int asked) {
            add(LOOK + asked);
            asksDay |= asked == Word.DAY.asked;
        }

        void endPart(int herb, boolean conditional) {
            add((conditional ? PUT_IF : PUT) + herb);
            herbBits |= 1 << herb;
            parts++;
        }

        /** What it puts of each herb, by what the village looks at. */
        void think(int[] sight, boolean frog, int[] cups) {
            Arrays.fill(cups, 0, HERBS, 0);
            int top = 0;
            for (int i = 0; i < length && top < MOST_VALUES; i++) {
                int step = steps[i];
                if (step < LOOK) {
                    values[top] = step;
                    top++;
                } else if (step < LOOK + SIGHTS) {
                    values[top] = sight[step - LOOK];
                    top++;
                } else if (step >= PUT) {
                    addPart(step, top, frog, cups);
                    top = 0;
                } else if (step == NOT && top >= 1) {
                    values[top - 1] = 1 - values[top - 1];
                } else if (top >= 2) {
                    top--;
                    values[top - 1] = joined(step, values[top - 1], values[top]);
                }
            }
        }

        private void addPart(int step, int top, boolean frog, int[] cups) {
            boolean conditional = step >= PUT_IF;
            int herb = step - (conditional ? PUT_IF : PUT);
            if (top < 1 || conditional && (top < 2 || values[1] == 0)) {
                return;
            }
            int due = values[0] < 0 ? 0 : values[0] > MOST_CUPS ? MOST_CUPS : values[0];
            cups[herb] += frog ? due / 2 : due;
        }

        private static int joined(int sign, int left, int right) {
            switch (sign) {
                case ADD: return left + right;
                case SUBTRACT: return left - right;
                case MULTIPLY: return left * right;
                case DIVIDE: return right == 0 ? 0 : left / right;
                case LESS: return left < right ? 1 : 0;
                case MORE: return left > right ? 1 : 0;
                case SAME: return left == right ? 1 : 0;
                case AND: return left & right;
                default: return left | right;
            }
        }
    }

    /** Reads opinions, by descent; what is open at one time keeps the descent low. */
    private static final class OpinionReader {
        private static final int MOST_PARTS = 6;
        private static final int MOST_OPEN = 6;
        private static final int MOST_NUMBER = 999;

        private final Tape tape;
        private Opinion opinion;
        private int opened = 0;

        OpinionReader(Tape tape, Opinion first) {
            this.tape = tape;
            this.opinion = first;
        }

        boolean read(Opinion into) {
            opinion = into;
            opinion.clear();
            opened = 0;
            for (int part = 0; part <= MOST_PARTS; part++) {
                if (tape.isEnded()) {
                    return true;
                }
                if (!readPart(part) || !tape.needSign(';')) {
                    return false;
                }
            }
            return false;
        }

        private boolean readPart(int part) {
            if (!tape.takes(Word.PUT)) {
                return tape.fails(MISPLACED);
            }
            if (part >= MOST_PARTS) {
                return tape.fails(TOO_MANY);
            }
            int herb = tape.nextHerb();
            if (herb == NONE || !readSum()) {
                return false;
            }
            boolean conditional = tape.takes(Word.IF);
            if (conditional && !readCondition()) {
                return false;
            }
            opinion.endPart(herb, conditional);
            return true;
        }

        /** Tests with "and" and "or" between them; an "or" waits till all of its right side is there. */
        private boolean readCondition() {
            boolean waits = false;
            boolean sound = readTest();
            for (int i = 0; i < SHORT_TEXT && sound; i++) {
                if (tape.takes(Word.AND)) {
                    sound = readTest();
                    opinion.add(Opinion.AND);
                } else {
                    if (waits) {
                        opinion.add(Opinion.OR);
                    }
                    waits = tape.takes(Word.OR);
                    if (!waits) {
                        return true;
                    }
                    sound = readTest();
                }
            }
            return sound;
        }

        private boolean readTest() {
            if (tape.takes(Word.NOT)) {
                if (!opens() || !readTest()) {
                    return false;
                }
                opinion.add(Opinion.NOT);
                opened--;
                return true;
            }
            if (tape.sign('[')) {
                if (!opens() || !readCondition() || !tape.needSign(']')) {
                    return false;
                }
                opened--;
                return true;
            }
            if (!readSum()) {
                return false;
            }
            int sign = tape.sign('<') ? Opinion.LESS : tape.sign('>') ? Opinion.MORE
                    : tape.sign('=') ? Opinion.SAME : NONE;
            if (sign == NONE) {
                return tape.fails(MISPLACED);
            }
            boolean sound = readSum();
            opinion.add(sign);
            return sound;
        }

        private boolean opens() {
            if (opened >= MOST_OPEN) {
                return tape.fails(TOO_MANY);
            }
            opened++;
            return true;
        }

        /** Values with signs between them; a + or - waits till all of its right side is there. */
        private boolean readSum() {
            int waiting = NONE;
            boolean sound = readValue();
            for (int i = 0; i < SHORT_TEXT && sound; i++) {
                int sign = tape.sign('*') ? Opinion.MULTIPLY : tape.sign('/') ? Opinion.DIVIDE : NONE;
                if (sign != NONE) {
                    sound = readValue();
                    opinion.add(sign);
                } else {
                    if (waiting != NONE) {
                        opinion.add(waiting);
                    }
                    waiting = tape.sign('+') ? Opinion.ADD : tape.sign('-') ? Opinion.SUBTRACT : NONE;
                    if (waiting == NONE) {
                        return true;
                    }
                    sound = readValue();
                }
            }
            return sound;
        }

        private boolean readValue() {
            if (tape.sign('(')) {
                if (!opens() || !readSum() || !tape.needSign(')')) {
                    return false;
                }
                opened--;
                return true;
            }
            if (tape.isDigit()) {
                int number = tape.numberIn(0, MOST_NUMBER);
                opinion.add(number);
                return number != NONE;
            }
            int asked = tape.nextWord().asked;
            if (asked == NONE) {
                return tape.fails(MISPLACED);
            }
            opinion.addLook(asked);
            return true;
        }
    }

    /** The tasters' book. */
    private static final class Book {
        private static final int MOST_LINES = 12;
        private static final int LAST_LINE_DAY = 99;
        private static final int MOST_VIEW = 7;

        private final int[] lineDays = new int[MOST_LINES];
        private final int[] lineViews = new int[MOST_LINES];
        private int lines = 0;
        private int lastDay = 0;

        void clear() {
            lines = 0;
            lastDay = 0;
        }

        boolean read(Tape tape) {
            clear();
            for (int line = 0; line <= MOST_LINES; line++) {
                if (tape.isEnded()) {
                    return true;
                }
                if (!readLine(tape) || !tape.needSign(';')) {
                    return false;
                }
            }
            return false;
        }

        private boolean readLine(Tape tape) {
            int day = tape.numberIn(1, LAST_LINE_DAY);
            if (day == NONE) {
                return false;
            }
            if (lines >= MOST_LINES) {
                return tape.fails(TOO_MANY);
            }
            int seen = tape.numberIn(0, MOST_VIEW);
            if (seen == NONE) {
                return false;
            }
            lineDays[lines] = day;
            lineViews[lines] = seen;
            lines++;
            lastDay = Math.max(lastDay, day);
            return true;
        }

        /** The first line that is not so by a day's view; the number of lines without one. */
        int firstWrong(int day, int seen) {
            for (int i = 0; i < lines; i++) {
                if (lineDays[i] == day && lineViews[i] != seen) {
                    return i;
                }
            }
            return lines;
        }
    }

    /** Days gone by, with who is pleased, contrary, and the grades: all that an image keeps. */
    private static final class Days {
        /** Cups of water, and of each herb, that a village looks at. */
        private static final int KINDS = 1 + HERBS;

        /** Of each village its water, then of each herb what each village put. */
        private final int[] basins = new int[MOST_VILLAGES * (1 + HERBS * MOST_VILLAGES)];
        /** Basins behind the latest days, by the day's number modulo the longest lag. */
        private final int[] past = new int[MOST_LAG * MOST_VILLAGES * KINDS];
        private final int[] latest = new int[MOST_VILLAGES];
        private final int[] puts = new int[MOST_VILLAGES * HERBS];
        private final int[] came = new int[MOST_VILLAGES * HERBS];
        private final int[] grades = new int[MOST_VILLAGES];
        private final int[] tapped = new int[KINDS];
        private int villages = 0;
        /** How many cells of the basins are one village's. */
        private int width = 1;
        private int day = 0;
        private int pleased = 0;
        private int contrary = 0;
        private int gardens = 0;
        private int taken = 0;
        /** One more filter, and a drought: only while something is asked. */
        private int moreAt = NONE;
        private int more = 0;
        private int seed = 0;
        private int dryBelow = 0;

        void begin(Town town) {
            villages = town.villages;
            width = 1 + HERBS * villages;
            day = 0;
            pleased = 0;
            contrary = 0;
            gardens = 0;
            taken = 0;
            moreAt = NONE;
            more = 0;
            seed = 0;
            dryBelow = 0;
            Arrays.fill(basins, 0);
            Arrays.fill(past, 0);
            Arrays.fill(latest, 0);
            Arrays.fill(puts, 0);
            Arrays.fill(came, 0);
            Arrays.fill(grades, 0);
            Arrays.fill(tapped, 0);
            for (int v = 0; v < villages; v++) {
                basins[v * width] = town.waters[v];
            }
            remember(town);
        }

        void copyFrom(Days other) {
            System.arraycopy(other.basins, 0, basins, 0, basins.length);
            System.arraycopy(other.past, 0, past, 0, past.length);
            System.arraycopy(other.latest, 0, latest, 0, latest.length);
            System.arraycopy(other.puts, 0, puts, 0, puts.length);
            System.arraycopy(other.came, 0, came, 0, came.length);
            System.arraycopy(other.grades, 0, grades, 0, grades.length);
            System.arraycopy(other.tapped, 0, tapped, 0, tapped.length);
            villages = other.villages;
            width = other.width;
            day = other.day;
            pleased = other.pleased;
            contrary = other.contrary;
            gardens = other.gardens;
            taken = other.taken;
            moreAt = other.moreAt;
            more = other.more;
            seed = other.seed;
            dryBelow = other.dryBelow;
        }

        int cell(int village, int herb, int by) {
            return village * width + 1 + herb * villages + by;
        }

        int waterIn(int village) {
            return basins[village * width];
        }

        int herbIn(int village, int herb) {
            int first = cell(village, herb, 0);
            int cups = 0;
            for (int by = 0; by < villages; by++) {
                cups += basins[first + by];
            }
            return cups;
        }

        int herbsIn(int village) {
            int cups = 0;
            for (int herb = 0; herb < HERBS; herb++) {
                cups += herbIn(village, herb);
            }
            return cups;
        }

        int herbsInBasins() {
            int cups = 0;
            for (int v = 0; v < villages; v++) {
                cups += herbsIn(v);
            }
            return cups;
        }

        int sumOf(int[] row) {
            int cups = 0;
            for (int i = 0; i < row.length; i++) {
                cups += row[i];
            }
            return cups;
        }

        /** The view: bits of the herbs that came from the tap on this day. */
        int seen() {
            int bits = 0;
            for (int herb = 0; herb < HERBS; herb++) {
                bits |= tapped[1 + herb] > 0 ? 1 << herb : 0;
            }
            return bits;
        }

        boolean isPleased(int village) {
            return (pleased >> village & 1) == 1;
        }

        boolean isContrary(int village) {
            return (contrary >> village & 1) == 1;
        }

        /** Whether the next village's spring stays away. */
        boolean isNextDry() {
            if (dryBelow == 0) {
                return false;
            }
            seed = seed * 1103515245 + 12345;
            return (seed >>> 16 & 15) < dryBelow;
        }

        /** Where a basin as it was on a day stands in the past; ahead of day 0 it was as on day 0. */
        int pastCell(int village, int thatDay) {
            return (Math.max(0, thatDay) % MOST_LAG * MOST_VILLAGES + village) * KINDS;
        }

        /** Keeps the basins of this day for those who think of them later. */
        void remember(Town town) {
            for (int v = 0; v < villages; v++) {
                if (town.lags[v] > 0) {
                    int first = pastCell(v, day);
                    past[first] = waterIn(v);
                    for (int herb = 0; herb < HERBS; herb++) {
                        past[first + 1 + herb] = herbIn(v, herb);
                    }
                }
            }
        }
    }

    /** Days as they were, some kept and the others to be gone through again, so that days can be undone. */
    private static final class Diary {
        private static final int STEP = 32;
        private static final int MOST_MARKS = LAST_DAY / STEP + 1;

        private final Days[] marks = new Days[MOST_MARKS];
        private int first = 0;

        /** From now on no day ahead of this one can be undone. */
        void begin(Days now) {
            first = now.day;
            note(now);
        }

        void note(Days now) {
            int gone = now.day - first;
            int place = gone / STEP;
            if (gone < 0 || gone % STEP != 0 || place >= MOST_MARKS) {
                return;
            }
            if (marks[place] == null) {
                marks[place] = new Days();
            }
            marks[place].copyFrom(now);
        }

        /** Makes it the latest day kept that is not behind the one asked for. */
        void goBack(Days now, int day) {
            int place = (day - first) / STEP;
            if (day >= first && place < MOST_MARKS && marks[place] != null) {
                now.copyFrom(marks[place]);
            }
        }
    }

    /** The town with its opinions: leads days on. */
    private static final class Aqueduct {
        private Town town = new Town();
        private final Opinion[] opinions = new Opinion[MOST_VILLAGES];
        private final int[] change = new int[MOST_VILLAGES * (1 + HERBS * MOST_VILLAGES)];
        private final int[] fresh = new int[MOST_VILLAGES * HERBS];
        private final int[] decided = new int[HERBS];
        private final int[] sight = new int[Opinion.SIGHTS];

        Aqueduct() {
            for (int v = 0; v < MOST_VILLAGES; v++) {
                opinions[v] = new Opinion();
            }
        }

        Opinion opinionOf(int village) {
            return opinions[village];
        }

        /** Takes a village's new opinion; answers its former one. */
        Opinion tell(int village, Opinion next) {
            Opinion former = opinions[village];
            opinions[village] = next;
            return former;
        }

        void forgetOpinions() {
            for (int v = 0; v < MOST_VILLAGES; v++) {
                opinions[v].clear();
            }
        }

        /** Bits of the villages whose opinions put one of these herbs. */
        int puttersOf(int herbBits) {
            int bits = 0;
            for (int v = 0; v < town.villages; v++) {
                bits |= (opinions[v].herbBits & herbBits) != 0 ? 1 << v : 0;
            }
            return bits;
        }

        boolean asksDay() {
            for (int v = 0; v < town.villages; v++) {
                if (opinions[v].asksDay) {
                    return true;
                }
            }
            return false;
        }

        void goDay(Days d) {
            d.day++;
            flow(d);
            fill(d);
            strain(d);
            for (int v = 0; v < d.villages; v++) {
                decide(d, v);
            }
            addFresh(d);
            d.remember(town);
        }

        private void flow(Days d) {
            int cells = d.villages * d.width;
            Arrays.fill(change, 0, cells, 0);
            Arrays.fill(d.tapped, 0);
            for (int c = 0; c < town.channels; c++) {
                leadAlong(d, c);
            }
            leadToTown(d);
            for (int v = 0; v < d.villages; v++) {
                leadToGardens(d, v);
            }
            for (int i = 0; i < cells; i++) {
                d.basins[i] += change[i];
            }
        }

        private void leadAlong(Days d, int channel) {
            int width = d.width;
            int source = town.from[channel] * width;
            int goal = town.to[channel] * width;
            int parts = town.parts[channel];
            for (int i = 0; i < width; i++) {
                int cups = d.basins[source + i];
                if (cups > 0) {
                    int led = cups * parts / EIGHT;
                    change[source + i] -= led;
                    change[goal + i] += led;
                }
            }
        }

        private void leadToTown(Days d) {
            if (town.tapVillage == NONE) {
                return;
            }
            int source = town.tapVillage * d.width;
            d.tapped[0] = d.basins[source] * town.tapParts / EIGHT;
            change[source] -= d.tapped[0];
            for (int herb = 0; herb < HERBS; herb++) {
                for (int by = 0; by < d.villages; by++) {
                    int cell = d.cell(town.tapVillage, herb, by);
                    int led = d.basins[cell] * town.tapParts / EIGHT;
                    change[cell] -= led;
                    d.tapped[1 + herb] += led;
                    d.came[by * HERBS + herb] += led;
                }
            }
        }

        private void leadToGardens(Days d, int village) {
            int parts = town.leaks[village];
            if (parts == 0) {
                return;
            }
            int width = d.width;
            int source = village * width;
            change[source] -= d.basins[source] * parts / EIGHT;
            for (int i = 1; i < width; i++) {
                int led = d.basins[source + i] * parts / EIGHT;
                change[source + i] -= led;
                d.gardens += led;
            }
        }

        private void fill(Days d) {
            for (int v = 0; v < d.villages; v++) {
                if (!d.isNextDry()) {
                    d.basins[v * d.width] += town.springs[v];
                }
            }
        }

        private void strain(Days d) {
            for (int v = 0; v < d.villages; v++) {
                for (int herb = 0; herb < HERBS; herb++) {
                    int place = v * HERBS + herb;
                    int most = town.strainers[place] + d.grades[v] + (d.moreAt == place ? d.more : 0);
                    takeOut(d, d.cell(v, herb, 0), most);
                }
            }
        }

        private void takeOut(Days d, int first, int most) {
            int left = most;
            for (int by = 0; by < d.villages && left > 0; by++) {
                int out = Math.min(left, d.basins[first + by]);
                d.basins[first + by] -= out;
                d.taken += out;
                left -= out;
            }
        }

        /** What a village puts on this day, kept aside till all have put. */
        private void decide(Days d, int village) {
            Arrays.fill(decided, 0);
            if (!d.isPleased(village) && opinions[village].parts > 0) {
                if (town.lags[village] > 0) {
                    int then = d.pastCell(village, d.day - town.lags[village]);
                    lookInto(d.past[then + 1], d.past[then + 2], d.past[then + 3], d.past[then]);
                } else {
                    lookInto(d.herbIn(village, 0), d.herbIn(village, 1), d.herbIn(village, 2), d.waterIn(village));
                }
                lookAround(village, d.day, d.latest[village]);
                opinions[village].think(sight, town.frogs[village] == 1, decided);
            }
            boolean swaps = d.isContrary(village);
            for (int herb = 0; herb < HERBS; herb++) {
                fresh[village * HERBS + (swaps ? contraryTo(herb) : herb)] = decided[herb];
            }
        }

        private static int contraryTo(int herb) {
            return herb == MINT ? RUE : herb == RUE ? MINT : herb;
        }

        void lookInto(int mint, int rue, int sage, int water) {
            sight[Word.MINT.asked] = mint;
            sight[Word.RUE.asked] = rue;
            sight[Word.SAGE.asked] = sage;
            sight[Word.WATER.asked] = water;
        }

        private void lookAround(int village, int day, int putAhead) {
            sight[Word.DAY.asked] = day;
            sight[Word.PUT.asked] = putAhead;
            sight[Word.SPRING.asked] = town.springs[village];
        }

        /** What a village thinks by the basin that was looked into. */
        void thinkOf(int village, int day, int putAhead, int[] into) {
            lookAround(village, day, putAhead);
            opinions[village].think(sight, town.frogs[village] == 1, into);
        }

        private void addFresh(Days d) {
            for (int v = 0; v < d.villages; v++) {
                d.latest[v] = 0;
                for (int herb = 0; herb < HERBS; herb++) {
                    int put = fresh[v * HERBS + herb];
                    d.basins[d.cell(v, herb, v)] += put;
                    d.puts[v * HERBS + herb] += put;
                    d.latest[v] += put;
                }
            }
        }
    }

    /** What would come from now on; all of it is tried on days of its own. */
    private static final class Foresight {
        private static final int FARTHEST = 99;
        private static final int LONGEST_ROUND = 200;
        private static final int MOST_GAME_ROUNDS = 20;
        /** Basins, four days of a lag, and what each village put. */
        private static final int ROW = MOST_VILLAGES * (1 + HERBS * MOST_VILLAGES)
                + MOST_VILLAGES * (MOST_LAG - 1) * Days.KINDS + MOST_VILLAGES;

        private final Aqueduct aqueduct;
        private final Days trial = new Days();
        private final int[] formerGrades = new int[MOST_GAME_ROUNDS + 1];
        /** Made when a round is first asked for, as it is long. */
        private int[] rows = new int[0];
        private int roundDays = NONE;
        private int roundAgo = NONE;

        Foresight(Aqueduct aqueduct) {
            this.aqueduct = aqueduct;
        }

        Days after(Days now, int days) {
            trial.copyFrom(now);
            go(days);
            return trial;
        }

        private void go(int days) {
            for (int i = 0; i < days; i++) {
                aqueduct.goDay(trial);
            }
        }

        int firstSeen(Days now, int bits) {
            trial.copyFrom(now);
            for (int day = 1; day <= FARTHEST; day++) {
                aqueduct.goDay(trial);
                if (trial.seen() == bits) {
                    return day;
                }
            }
            return NONE;
        }

        int leastPleased(Days now, int days) {
            // One who puts nothing anyway is never in the smallest set but as pleased already.
            int useful = now.pleased | aqueduct.puttersOf((1 << HERBS) - 1);
            int all = aqueduct.town.allBits();
            for (int size = 0; size <= now.villages; size++) {
                for (int set = 0; set <= all; set++) {
                    boolean fits = Integer.bitCount(set) == size && (set & now.pleased) == now.pleased
                            && (set | useful) == useful;
                    if (fits && isClearBy(now, set, days)) {
                        return set;
                    }
                }
            }
            return NONE;
        }

        private boolean isClearBy(Days now, int set, int days) {
            trial.copyFrom(now);
            trial.pleased = set;
            go(days);
            return trial.seen() == 0;
        }

        int leastFilter(Days now, int village, int herb, int days) {
            for (int cups = 0; cups <= MOST_CUPS; cups++) {
                trial.copyFrom(now);
                trial.moreAt = village * HERBS + herb;
                trial.more = cups;
                go(days);
                if (trial.tapped[1 + herb] == 0) {
                    return cups;
                }
            }
            return NONE;
        }

        /** The loss of a village by a grade; once it is no less than enough, it may be any number that is so. */
        int lossWith(Days now, int village, int grade, int days, int c, int enough) {
            trial.copyFrom(now);
            trial.grades[village] = grade;
            int loss = c * grade * days;
            for (int i = 0; i < days && loss < enough; i++) {
                aqueduct.goDay(trial);
                loss += trial.herbsIn(village);
            }
            return loss;
        }

        int wishOf(Days now, int village, int days, int c) {
            int best = 0;
            int least = BOUNDLESS;
            for (int grade = 0; grade <= MOST_GRADE; grade++) {
                int loss = lossWith(now, village, grade, days, c, least);
                if (loss < least) {
                    least = loss;
                    best = grade;
                }
            }
            return best;
        }

        /** Villages take their wishes in turn; the grades stay as they are at the end. */
        int settle(Days now, int days, int c) {
            formerGrades[0] = gradesOf(now);
            for (int round = 1; round <= MOST_GAME_ROUNDS; round++) {
                for (int v = 0; v < now.villages; v++) {
                    now.grades[v] = wishOf(now, v, days, c);
                }
                int grades = gradesOf(now);
                if (grades == formerGrades[round - 1]) {
                    return 1;
                }
                for (int i = 0; i < round; i++) {
                    if (formerGrades[i] == grades) {
                        return 0;
                    }
                }
                formerGrades[round] = grades;
            }
            return 0;
        }

        private static int gradesOf(Days now) {
            int all = 0;
            for (int v = 0; v < now.villages; v++) {
                all = all * (MOST_GRADE + 1) + now.grades[v];
            }
            return all;
        }

        /** Water at the tap in all of these days of a drought; the trial is as it is behind them. */
        int droughtWater(Days now, int seed, int q, int days) {
            trial.copyFrom(now);
            trial.seed = seed;
            trial.dryBelow = q;
            int water = 0;
            for (int i = 0; i < days; i++) {
                aqueduct.goDay(trial);
                water += trial.tapped[0];
            }
            return water;
        }

        void findRound(Days now) {
            roundDays = NONE;
            roundAgo = NONE;
            if (aqueduct.asksDay()) {
                return;
            }
            if (rows.length == 0) {
                rows = new int[(LONGEST_ROUND + 1) * ROW];
            }
            trial.copyFrom(now);
            int used = writeRow(0);
            for (int day = 1; day <= LONGEST_ROUND; day++) {
                aqueduct.goDay(trial);
                writeRow(day);
                int alike = rowLike(day, used);
                if (alike != NONE) {
                    roundDays = day;
                    roundAgo = day - alike;
                    return;
                }
            }
        }

        /** Writes all that must be alike in a round; answers how much it is. */
        private int writeRow(int row) {
            int first = row * ROW;
            int at = first;
            int cells = trial.villages * trial.width;
            System.arraycopy(trial.basins, 0, rows, at, cells);
            at += cells;
            for (int v = 0; v < trial.villages; v++) {
                rows[at] = trial.latest[v];
                at++;
                for (int ago = 1; ago < aqueduct.town.lags[v]; ago++) {
                    System.arraycopy(trial.past, trial.pastCell(v, trial.day - ago), rows, at, Days.KINDS);
                    at += Days.KINDS;
                }
            }
            return at - first;
        }

        /** The earlier row that is like this one. */
        private int rowLike(int row, int used) {
            for (int other = 0; other < row; other++) {
                int i = 0;
                while (i < used && rows[other * ROW + i] == rows[row * ROW + i]) {
                    i++;
                }
                if (i == used) {
                    return other;
                }
            }
            return NONE;
        }
    }

    /** What is asked from day 0 on: by the tasters' book, and where to taste. */
    private static final class Tasters {
        private final Aqueduct aqueduct;
        private final Days trial = new Days();
        private final int[] patterns = new int[MOST_VILLAGES];
        private Book book = new Book();
        private boolean studied = false;
        private int setCount = 0;
        private int firstSet = NONE;
        private int inAll = 0;
        private int inNone = 0;

        Tasters(Aqueduct aqueduct) {
            this.aqueduct = aqueduct;
        }

        /** To be called when the town, an opinion or the book is another one. */
        void forget() {
            studied = false;
        }

        /** Finds the minds once, as they do not change by days gone through. */
        void study() {
            if (studied) {
                return;
            }
            studied = true;
            setCount = 0;
            firstSet = NONE;
            int all = aqueduct.town.allBits();
            // Who puts neither mint nor rue does the same, contrary or not: each set goes with him and without.
            int deciding = aqueduct.puttersOf(1 << MINT | 1 << RUE);
            int inEach = all;
            int inSome = 0;
            for (int set = 0; set <= all; set++) {
                if ((set | deciding) == deciding && isRight(set)) {
                    firstSet = setCount == 0 ? set : firstSet;
                    setCount++;
                    inEach &= set;
                    inSome |= set;
                }
            }
            inAll = setCount == 0 ? 0 : inEach;
            inNone = setCount == 0 ? 0 : deciding & ~inSome;
            setCount <<= Integer.bitCount(all & ~deciding);
        }

        private boolean isRight(int set) {
            trial.begin(aqueduct.town);
            trial.contrary = set;
            for (int day = 1; day <= book.lastDay; day++) {
                aqueduct.goDay(trial);
                if (book.firstWrong(day, trial.seen()) < book.lines) {
                    return false;
                }
            }
            return true;
        }

        int linesRight(int set) {
            trial.begin(aqueduct.town);
            trial.contrary = set;
            int lines = book.lines;
            for (int day = 1; day <= book.lastDay; day++) {
                aqueduct.goDay(trial);
                lines = Math.min(lines, book.firstWrong(day, trial.seen()));
            }
            return lines;
        }

        /** The basins with any herb behind a day, if one village alone has its opinion. */
        int basinsOf(int village, int day) {
            trial.begin(aqueduct.town);
            // That the others have no opinion is the same as that they are pleased.
            trial.pleased = aqueduct.town.allBits() & ~(1 << village);
            for (int i = 0; i < day; i++) {
                aqueduct.goDay(trial);
            }
            int bits = 0;
            for (int v = 0; v < trial.villages; v++) {
                bits |= trial.herbsIn(v) > 0 ? 1 << v : 0;
            }
            return bits;
        }

        int fewestTastes(int day) {
            int villages = aqueduct.town.villages;
            int all = aqueduct.town.allBits();
            for (int v = 0; v < villages; v++) {
                patterns[v] = basinsOf(v, day);
            }
            for (int size = 0; size <= villages; size++) {
                for (int set = 0; set <= all; set++) {
                    if (Integer.bitCount(set) == size && tellsApart(set, villages)) {
                        return set;
                    }
                }
            }
            return all;
        }

        private boolean tellsApart(int set, int villages) {
            for (int v = 0; v < villages; v++) {
                for (int w = 0; w < v; w++) {
                    if (patterns[v] != patterns[w] && (patterns[v] & set) == (patterns[w] & set)) {
                        return false;
                    }
                }
            }
            return true;
        }
    }
}
