/** One pen in the office; ../shared/DOC.md says what every method answers. */
public final class OnePen {
    public static final int NONE = -1;

    private static final int TAPE_BYTES = 400;
    private static final int MOST_CLERKS = 4;
    private static final int MOST_AWAYS = 6;
    private static final int MOST_PAPERS = 6;
    private static final int MOST_RULES = 6;
    private static final int MOST_IMAGES = 4;
    private static final int MOST_LOGS = 10;
    private static final int MOST_ACTS = 20;
    private static final int LAST_MINUTE = 9999;
    private static final int CHANGE_MINUTES = 3;
    private static final int ALL = (1 << MOST_PAPERS) - 1;

    /** All words of both languages; the first thirteen are values of a paper. */
    private static final String WORDS =
        "paper clerk strokes due worth way left needs bears ink nib minute begins office away rests sign if or and not";
    private static final int PAPER = 0;
    private static final int CLERK = 1;
    private static final int VALUE_WORDS = 13;
    private static final int OFFICE = 13;
    private static final int AWAY = 14;
    private static final int RESTS = 15;
    private static final int SIGN = 16;
    private static final int IF = 17;
    private static final int OR = 18;
    private static final int AND = 19;
    private static final int NOT = 20;

    private static final int CANT_STAND = 0;
    private static final int BAD_NUMBER = 1;
    private static final int TOO_DEEP = 2;
    private static final int TOO_MANY_PARTS = 3;
    private static final int BAD_CLAUSE = 4;

    private final int[] tape = new int[TAPE_BYTES];
    private int taped;
    private final Text text = new Text();
    private final Office draft = new Office();
    private final RuleReader ruleReader = new RuleReader();
    private final Rule[] rules = new Rule[MOST_RULES];
    private int ruleCount;
    private final Desk desk = new Desk();
    private final Desk[] images = new Desk[MOST_IMAGES];
    private final boolean[] imageMade = new boolean[MOST_IMAGES];
    private final History history = new History();
    private final Day trial = new Day();
    private final RuleRun ruleRun = new RuleRun();
    private final Planner planner = new Planner();
    private final Orders dayOrders = new Orders();

    public OnePen() {
        for (int k = 0; k < rules.length; k++) {
            rules[k] = new Rule();
        }
        for (int k = 0; k < images.length; k++) {
            images[k] = new Desk();
        }
    }

    // ---- the tape and the two languages

    public int feed(int a, int b, int c, int d, int e) {
        if (taped + 20 > TAPE_BYTES) {
            return NONE;
        }
        feedNumber(a);
        feedNumber(b);
        feedNumber(c);
        feedNumber(d);
        feedNumber(e);
        return taped;
    }

    private void feedNumber(int number) {
        for (int shift = 24; shift >= 0; shift -= 8) {
            if (taped >= 0 && taped < tape.length) {
                tape[taped] = (number >> shift) & 255;
                taped++;
            }
        }
    }

    public int end(int n) {
        if (n < 0 || n > taped) {
            return NONE;
        }
        taped = n;
        return n;
    }

    public int office() {
        text.cut(tape, taped);
        taped = 0;
        draft.readFrom(text);
        if (text.fault != 0) {
            return -2 - text.fault;
        }
        desk.office.copyFrom(draft);
        desk.day.open(draft);
        desk.logs.clear();
        history.clear();
        return desk.office.papers;
    }

    public int rule() {
        if (ruleCount < 0 || ruleCount >= rules.length) {
            return NONE;
        }
        text.cut(tape, taped);
        taped = 0;
        ruleReader.read(text);
        if (text.fault != 0) {
            return -2 - text.fault;
        }
        rules[ruleCount].copyFrom(ruleReader.draft);
        ruleCount++;
        return ruleCount - 1;
    }

    // ---- what there is

    public int paper(int paper, int what) {
        Office told = desk.office;
        Day day = desk.day;
        if (!told.hasPaper(paper)) {
            return -2;
        }
        switch (what) {
            case 0: return told.owner[paper];
            case 1: return told.strokes[paper];
            case 2: return told.due[paper];
            case 3: return told.worth[paper];
            case 4: return day.ends[paper];
            case 5: return bit(day.voided, paper);
            case 6: return bit(day.blanked, paper);
            case 7: return day.inTime(told, paper) ? 1 : 0;
            case 8: return told.rests[paper];
            default: return -2;
        }
    }

    public int clerk(int clerk, int what) {
        Office told = desk.office;
        if (!told.hasClerk(clerk)) {
            return NONE;
        }
        switch (what) {
            case 0: return told.seat[clerk];
            case 1: return told.isAway(clerk, desk.day.minute) ? 1 : 0;
            case 2: return told.papersOf(clerk);
            case 3: return told.papersOf(clerk) & ~desk.day.signed;
            default: return NONE;
        }
    }

    public int count(int what) {
        Office told = desk.office;
        Day day = desk.day;
        switch (what) {
            case 0: return told.ink;
            case 1: return told.nib;
            case 2: return told.fill;
            case 3: return told.clerks;
            case 4: return told.aways;
            case 5: return told.papers;
            case 6: return ruleCount;
            case 7: return day.minute;
            case 8: return day.place;
            case 9: return day.ink;
            case 10: return day.nib;
            case 11: return day.signed;
            case 12: return day.worthInTime(told);
            case 13: return desk.logs.size;
            case 14: return history.size;
            case 15: return desk.x;
            case 16: return taped;
            default: return NONE;
        }
    }

    // ---- acts

    public int sign(int paper) {
        trial.copyFrom(desk.day);
        int minute = trial.write(desk.office, paper, ALL);
        if (minute == NONE) {
            return NONE;
        }
        act();
        return minute;
    }

    public int blank(int paper) {
        Day day = desk.day;
        if (!desk.office.hasPaper(paper) || has(day.signed | day.blanked, paper)) {
            return NONE;
        }
        trial.copyFrom(day);
        trial.blanked |= 1 << paper;
        act();
        return Integer.bitCount(day.blanked);
    }

    public int await(int minutes) {
        if (minutes < 1 || minutes > 100 || !canPass(minutes)) {
            return NONE;
        }
        trial.copyFrom(desk.day);
        trial.minute += minutes;
        act();
        return desk.day.minute;
    }

    public int filling() {
        int had = desk.day.ink;
        if (had >= desk.office.ink || !canPass(desk.office.fill)) {
            return NONE;
        }
        trial.copyFrom(desk.day);
        trial.minute += desk.office.fill;
        trial.ink = desk.office.ink;
        act();
        return had;
    }

    public int change() {
        int had = desk.day.nib;
        if (had >= desk.office.nib || !canPass(CHANGE_MINUTES)) {
            return NONE;
        }
        trial.copyFrom(desk.day);
        trial.minute += CHANGE_MINUTES;
        trial.nib = desk.office.nib;
        act();
        return had;
    }

    public int undo() {
        return history.pop(desk.day) ? history.size : NONE;
    }

    private boolean canPass(int minutes) {
        return desk.office.isTold && desk.day.minute + minutes <= LAST_MINUTE;
    }

    /** Makes the trial day the day, so that it can be undone. */
    private void act() {
        history.push(desk.day);
        desk.day.copyFrom(trial);
    }

    // ---- what would be

    public int when(int paper, int what) {
        if (what < 0 || what > 2 || !desk.office.hasPaper(paper) || has(desk.day.signed, paper)) {
            return -3;
        }
        trial.copyFrom(desk.day);
        int minute = trial.write(desk.office, paper, ALL);
        if (minute == NONE) {
            return -2;
        }
        if (what == 0) {
            return minute;
        }
        return what == 1 ? bit(trial.voided, paper) : trial.inTime(desk.office, paper) ? 1 : 0;
    }

    public int by(int rule, int what) {
        if (!hasRule(rule) || what < 0 || what > 8 || !desk.office.isTold) {
            return -3;
        }
        ruleRun.run(desk.office, desk.day, rules[rule]);
        switch (what) {
            case 0: return ruleRun.day.worthInTime(desk.office);
            case 1: return ruleRun.day.minute;
            case 2: return ruleRun.size;
            default: return inRow(ruleRun.row, ruleRun.size, what - 3);
        }
    }

    public int waits(int clerk, int rule) {
        if (!desk.office.hasClerk(clerk) || !hasRule(rule)) {
            return NONE;
        }
        ruleRun.run(desk.office, desk.day, rules[rule]);
        return ruleRun.waitOf(desk.office, clerk, desk.day.minute);
    }

    private boolean hasRule(int rule) {
        return rule >= 0 && rule < ruleCount && rule < rules.length;
    }

    private static int inRow(int[] row, int size, int place) {
        return place >= 0 && place < size && place < row.length ? row[place] : -2;
    }

    // ---- plans

    public int plan(int what) {
        if (what < 0 || what > 8 || !desk.office.isTold) {
            return -3;
        }
        planner.search(desk.office, desk.day, ALL, ALL);
        switch (what) {
            case 0: return planner.bestWorth;
            case 1: return planner.bestMinute;
            case 8: return desk.day.unsigned(desk.office) & ~planner.bestPapers();
            default: return inRow(planner.bestRow, planner.bestSize, what - 2);
        }
    }

    public int rings() {
        return desk.office.isTold ? desk.office.ringsWithin(ALL) : NONE;
    }

    public int blanks(int what) {
        if (what < 0 || what > 1 || !desk.office.isTold) {
            return NONE;
        }
        int least = leastBlanks(desk.day.unsigned(desk.office) & ~desk.day.blanked);
        return what == 0 ? least : Integer.bitCount(least);
    }

    private int leastBlanks(int pool) {
        int least = pool;
        // sets are met the least first, so that only one of fewer papers takes the place
        for (int set = 0; set <= pool; set++) {
            if ((set & ~pool) == 0 && Integer.bitCount(set) < Integer.bitCount(least)
                    && desk.office.ringsWithin(pool & ~set) == 0) {
                least = set;
            }
        }
        return least;
    }

    public int second(int clerk) {
        Office told = desk.office;
        if (!told.hasClerk(clerk)) {
            return -1000;
        }
        int theirs = told.papersOf(clerk);
        int others = ALL & ~theirs;
        int together = planner.search(desk.office, desk.day, others, others);
        trial.copyFrom(desk.day);
        trial.takeNewPen(told, clerk);
        together += planner.search(desk.office, trial, theirs, theirs);
        // both plans count what is in time already, so that once is too much
        return together - desk.day.worthInTime(told) - planner.search(desk.office, desk.day, ALL, ALL);
    }

    public int keep(int what) {
        Office told = desk.office;
        if (what < 0 || what > 1 || !told.isTold) {
            return NONE;
        }
        int whole = planner.search(desk.office, desk.day, ALL, ALL);
        int who = -2;
        int most = -2;
        for (int clerk = 0; clerk < told.clerks; clerk++) {
            int loss = whole - planner.search(desk.office, desk.day, ALL & ~told.papersOf(clerk), ALL);
            if (loss > most) {
                most = loss;
                who = clerk;
            }
        }
        return what == 0 ? who : most;
    }

    public int late() {
        if (!desk.office.isTold) {
            return NONE;
        }
        return planner.leastLate(desk.office, desk.day);
    }

    // ---- an earlier day

    public int log(int what, int one, int other) {
        Logs logs = desk.logs;
        if (what == NONE) {
            logs.clear();
            return 0;
        }
        if (!logs.mayBeTold(what, one, other, desk.office) || !logs.add(what, one, other)) {
            return -2;
        }
        return logs.size;
    }

    public int orders(int what) {
        if (what < 0 || what > 12 || !desk.office.isTold) {
            return -3;
        }
        dayOrders.find(desk.office, desk.logs);
        if (what == 0) {
            return dayOrders.total;
        }
        int place = (what - 1) % MOST_PAPERS;
        if (dayOrders.total == 0 || place >= desk.office.papers) {
            return -2;
        }
        return what <= MOST_PAPERS ? dayOrders.first[place] : dayOrders.papersAt(place);
    }

    public int look(int what) {
        if (what < 0 || what > 1 || !desk.office.isTold) {
            return NONE;
        }
        dayOrders.find(desk.office, desk.logs);
        int best = -2;
        int fewest = -2;
        for (int k = 0; k < desk.office.papers && dayOrders.total > 0; k++) {
            int alike = dayOrders.mostAlikeAt(k);
            if (best == -2 || alike < fewest) {
                best = k;
                fewest = alike;
            }
        }
        return what == 0 ? best : fewest;
    }

    // ---- drawn days

    public int seed(int x) {
        if (x < 0) {
            return NONE;
        }
        int was = desk.x;
        desk.x = x;
        return was;
    }

    public int days(int m, int what) {
        if (m < 1 || m > 20 || what < 0 || what > 1 || !desk.office.isTold) {
            return NONE;
        }
        int x = desk.x;
        int together = 0;
        for (int day = 0; day < m; day++) {
            x = drawDay(x);
            together += what == 0 ? trial.worthInTime(desk.office) : trial.minute;
        }
        return together;
    }

    /** Leaves the drawn day's end in the trial day; answers the x behind it. */
    private int drawDay(int x) {
        trial.copyFrom(desk.day);
        int drawn = x;
        for (int n = 0; n < MOST_PAPERS; n++) {
            int left = trial.unsigned(desk.office);
            int many = Integer.bitCount(left);
            if (many < 1) {
                break;
            }
            drawn = (int) ((drawn * 1103515245L + 12345L) & 2147483647L);
            int chosen = bitInPlace(left, drawn / 65536 % many);
            if (trial.write(desk.office, chosen, ALL) == NONE) {
                break;
            }
        }
        return drawn;
    }

    // ---- images

    public int image(int k) {
        if (k < 0 || k >= images.length || k >= imageMade.length) {
            return NONE;
        }
        images[k].copyFrom(desk);
        imageMade[k] = true;
        return desk.day.minute;
    }

    public int back(int k) {
        if (k < 0 || k >= images.length || k >= imageMade.length || !imageMade[k]) {
            return NONE;
        }
        desk.copyFrom(images[k]);
        history.clear();
        return desk.day.minute;
    }

    // ---- bits

    private static int bit(int bits, int k) {
        return (bits >> k) & 1;
    }

    private static boolean has(int bits, int k) {
        return ((bits >> k) & 1) == 1;
    }

    /** The number of that bit before which so many bits are set; NONE: there is none. */
    private static int bitInPlace(int bits, int place) {
        int ahead = 0;
        for (int k = 0; k < MOST_PAPERS; k++) {
            if (has(bits, k)) {
                if (ahead == place) {
                    return k;
                }
                ahead++;
            }
        }
        return NONE;
    }

    private static void copyRow(int[] from, int[] to) {
        for (int k = 0; k < from.length && k < to.length; k++) {
            to[k] = from[k];
        }
    }

    private static void fillRow(int[] row, int value) {
        for (int k = 0; k < row.length; k++) {
            row[k] = value;
        }
    }

    /** A text cut into words, numbers and marks, the place to read on in it, and its fault. */
    private static final class Text {
        static final int END = 0;
        static final int NUMBER = 1;
        static final int WORD = 2;
        static final int MARK = 3;
        /** What a < or > with a = behind it has more than its byte. */
        static final int OR_EQUAL = 256;
        static final int MOST_DIGITS = 5;

        final int[] kinds = new int[TAPE_BYTES + 1];
        final int[] values = new int[TAPE_BYTES + 1];
        final int[] places = new int[TAPE_BYTES + 1];
        int size;
        int next;
        int fault;

        void cut(int[] bytes, int length) {
            size = 0;
            next = 0;
            fault = 0;
            int at = 0;
            for (int step = 0; step < TAPE_BYTES && at < length && at < bytes.length; step++) {
                at += bytes[at] == ' ' ? 1 : cutOne(bytes, at, length);
            }
            put(END, 0, length);
        }

        /** Answers how many bytes the piece has. */
        private int cutOne(int[] bytes, int at, int length) {
            int head = bytes[at];
            if (head >= '0' && head <= '9') {
                int behind = runEnd(bytes, at, length, '0', '9');
                put(NUMBER, numberIn(bytes, at, behind), at);
                return behind - at;
            }
            if (head >= 'a' && head <= 'z') {
                int behind = runEnd(bytes, at, length, 'a', 'z');
                put(WORD, wordIn(bytes, at, behind), at);
                return behind - at;
            }
            boolean orEqual = (head == '<' || head == '>')
                && at + 1 < length && at + 1 < bytes.length && bytes[at + 1] == '=';
            put(MARK, orEqual ? head + OR_EQUAL : head, at);
            return orEqual ? 2 : 1;
        }

        private void put(int kind, int value, int place) {
            if (size >= 0 && size < kinds.length) {
                kinds[size] = kind;
                values[size] = value;
                places[size] = place;
                size++;
            }
        }

        private static int runEnd(int[] bytes, int from, int length, char low, char high) {
            for (int at = from; at < length && at < bytes.length; at++) {
                if (bytes[at] < low || bytes[at] > high) {
                    return at;
                }
            }
            return length;
        }

        /** NONE: more digits than there may be. */
        private static int numberIn(int[] bytes, int from, int behind) {
            if (behind - from > MOST_DIGITS) {
                return NONE;
            }
            int number = 0;
            for (int at = from; at < behind && at < bytes.length; at++) {
                number = number * 10 + bytes[at] - '0';
            }
            return number;
        }

        /** The place of the word in WORDS; NONE: it isn't there. */
        private static int wordIn(int[] bytes, int from, int behind) {
            int word = 0;
            int at = from;
            boolean same = true;
            for (int k = 0; k <= WORDS.length(); k++) {
                char letter = k < WORDS.length() ? WORDS.charAt(k) : ' ';
                if (letter != ' ') {
                    same = same && at < behind && at < bytes.length && bytes[at] == letter;
                    at++;
                } else if (same && at == behind) {
                    return word;
                } else {
                    word++;
                    at = from;
                    same = true;
                }
            }
            return NONE;
        }

        int kind() {
            return next >= 0 && next < size && next < kinds.length ? kinds[next] : END;
        }

        int value() {
            return next >= 0 && next < size && next < values.length ? values[next] : 0;
        }

        boolean isWord(int word) {
            return kind() == WORD && value() == word;
        }

        boolean isMark(int mark) {
            return kind() == MARK && value() == mark;
        }

        void step() {
            next++;
        }

        /** Notes the first fault alone, at the piece that is next. */
        void fail(int code) {
            if (fault == 0 && next >= 0 && next < size && next < places.length) {
                fault = 1 + 8 * places[next] + code;
            }
        }

        void takeMark(int mark) {
            if (isMark(mark)) {
                step();
            } else {
                fail(CANT_STAND);
            }
        }

        /** A number from low to high, other than the barred one; what it answers behind a fault is free. */
        int takeNumber(int low, int high, int barred) {
            int number = value();
            if (kind() != NUMBER) {
                fail(CANT_STAND);
            } else if (number < low || number > high || number == barred) {
                fail(BAD_NUMBER);
            } else {
                step();
            }
            return number;
        }
    }

    /** What the first language tells: the pen, clerks, their hours away, papers. */
    private static final class Office {
        static final int MOST_CLAUSES = 40;

        boolean isTold;
        int ink;
        int nib;
        int fill;
        int clerks;
        int aways;
        int papers;
        final int[] seat = new int[MOST_CLERKS];
        final int[] awayWho = new int[MOST_AWAYS];
        final int[] awayFirst = new int[MOST_AWAYS];
        final int[] awayLast = new int[MOST_AWAYS];
        final int[] owner = new int[MOST_PAPERS];
        final int[] strokes = new int[MOST_PAPERS];
        final int[] due = new int[MOST_PAPERS];
        final int[] worth = new int[MOST_PAPERS];
        final int[] rests = new int[MOST_PAPERS];

        void copyFrom(Office other) {
            isTold = other.isTold;
            ink = other.ink;
            nib = other.nib;
            fill = other.fill;
            clerks = other.clerks;
            aways = other.aways;
            papers = other.papers;
            copyRow(other.seat, seat);
            copyRow(other.awayWho, awayWho);
            copyRow(other.awayFirst, awayFirst);
            copyRow(other.awayLast, awayLast);
            copyRow(other.owner, owner);
            copyRow(other.strokes, strokes);
            copyRow(other.due, due);
            copyRow(other.worth, worth);
            copyRow(other.rests, rests);
        }

        void readFrom(Text text) {
            isTold = true;
            clerks = 0;
            aways = 0;
            papers = 0;
            for (int clause = 0; clause <= TAPE_BYTES && text.fault == 0; clause++) {
                readClause(text, clause);
                if (text.fault == 0 && text.kind() == Text.END) {
                    return;
                }
                text.takeMark(';');
            }
        }

        private void readClause(Text text, int clause) {
            int word = text.kind() == Text.WORD ? text.value() : NONE;
            if (word != OFFICE && word != CLERK && word != AWAY && word != PAPER && word != RESTS) {
                text.fail(CANT_STAND);
                return;
            }
            if (clause >= MOST_CLAUSES || (word == OFFICE) != (clause == 0) || isFull(word)) {
                text.fail(BAD_CLAUSE);
                return;
            }
            text.step();
            switch (word) {
                case OFFICE: readPen(text); break;
                case CLERK: readClerk(text); break;
                case AWAY: readAway(text); break;
                case PAPER: readPaper(text); break;
                default: readRests(text); break;
            }
        }

        private boolean isFull(int word) {
            return word == CLERK && clerks >= MOST_CLERKS
                || word == AWAY && aways >= MOST_AWAYS
                || word == PAPER && papers >= MOST_PAPERS;
        }

        private void readPen(Text text) {
            ink = text.takeNumber(1, 99, NONE);
            nib = text.takeNumber(1, 200, NONE);
            fill = text.takeNumber(0, 20, NONE);
        }

        private void readClerk(Text text) {
            int place = text.takeNumber(0, 20, NONE);
            if (text.fault == 0 && clerks < seat.length) {
                seat[clerks] = place;
                clerks++;
            }
        }

        private void readAway(Text text) {
            int who = text.takeNumber(0, clerks - 1, NONE);
            int first = text.takeNumber(0, 299, NONE);
            int last = text.takeNumber(first, 299, NONE);
            if (text.fault == 0 && aways < awayWho.length) {
                awayWho[aways] = who;
                awayFirst[aways] = first;
                awayLast[aways] = last;
                aways++;
            }
        }

        private void readPaper(Text text) {
            int who = text.takeNumber(0, clerks - 1, NONE);
            int many = text.takeNumber(1, 20, NONE);
            int minute = text.takeNumber(0, 299, NONE);
            int value = text.takeNumber(1, 30, NONE);
            if (text.fault == 0 && papers < owner.length) {
                owner[papers] = who;
                strokes[papers] = many;
                due[papers] = minute;
                worth[papers] = value;
                rests[papers] = 0;
                papers++;
            }
        }

        private void readRests(Text text) {
            int one = text.takeNumber(0, papers - 1, NONE);
            int other = text.takeNumber(0, papers - 1, one);
            if (text.fault == 0 && one >= 0 && one < rests.length) {
                rests[one] |= 1 << other;
            }
        }

        boolean hasClerk(int clerk) {
            return clerk >= 0 && clerk < clerks;
        }

        boolean hasPaper(int paper) {
            return paper >= 0 && paper < papers;
        }

        int wayBetween(int one, int other) {
            return hasClerk(one) && hasClerk(other) ? Math.abs(seat[one] - seat[other]) : 0;
        }

        int papersOf(int clerk) {
            int bits = 0;
            for (int paper = 0; paper < papers; paper++) {
                if (owner[paper] == clerk) {
                    bits |= 1 << paper;
                }
            }
            return bits;
        }

        /** How many of these papers rest on it. */
        int restingOn(int paper, int pool) {
            int many = 0;
            for (int other = 0; other < papers; other++) {
                if (has(pool, other) && has(rests[other], paper)) {
                    many++;
                }
            }
            return many;
        }

        boolean isAway(int clerk, int minute) {
            return freeFrom(clerk, minute, 1) != minute;
        }

        /** The first minute from which on the clerk is there for so many. */
        int freeFrom(int clerk, int from, int minutes) {
            int minute = from;
            // the times away are told in no order, but each is passed once at most
            for (int round = 0; round < aways; round++) {
                for (int k = 0; k < aways; k++) {
                    boolean meets = awayFirst[k] < minute + minutes && awayLast[k] >= minute;
                    if (awayWho[k] == clerk && meets) {
                        minute = awayLast[k] + 1;
                    }
                }
            }
            return minute;
        }

        /** Papers of the pool that rest, one by one over papers of it, on themselves. */
        int ringsWithin(int pool) {
            int found = 0;
            for (int paper = 0; paper < papers; paper++) {
                if (has(pool, paper) && has(reachedFrom(paper, pool), paper)) {
                    found |= 1 << paper;
                }
            }
            return found;
        }

        private int reachedFrom(int paper, int pool) {
            int reached = rests[paper] & pool;
            for (int step = 0; step < papers; step++) {
                for (int other = 0; other < papers; other++) {
                    if (has(reached, other)) {
                        reached |= rests[other] & pool;
                    }
                }
            }
            return reached;
        }
    }

    /** The pen and the papers as they are at a minute. */
    private static final class Day {
        int minute;
        int place = NONE;
        int ink;
        int nib;
        int signed;
        int voided;
        int blanked;
        final int[] ends = new int[MOST_PAPERS];

        void copyFrom(Day other) {
            minute = other.minute;
            place = other.place;
            ink = other.ink;
            nib = other.nib;
            signed = other.signed;
            voided = other.voided;
            blanked = other.blanked;
            copyRow(other.ends, ends);
        }

        void open(Office office) {
            minute = 0;
            signed = 0;
            voided = 0;
            blanked = 0;
            takeNewPen(office, office.clerks > 0 ? 0 : NONE);
            fillRow(ends, NONE);
        }

        void takeNewPen(Office office, int clerk) {
            place = clerk;
            ink = office.ink;
            nib = office.nib;
        }

        int unsigned(Office office) {
            return ((1 << office.papers) - 1) & ~signed;
        }

        boolean inTime(Office office, int paper) {
            return has(signed & ~voided, paper) && ends[paper] <= office.due[paper];
        }

        int worthInTime(Office office) {
            int sum = 0;
            for (int paper = 0; paper < office.papers; paper++) {
                if (inTime(office, paper)) {
                    sum += office.worth[paper];
                }
            }
            return sum;
        }

        private int fillingsFor(Office office, int strokes) {
            if (ink >= strokes || office.ink < 1) {
                return 0;
            }
            return (strokes + office.ink - 1) / office.ink;
        }

        /** The minute of the first stroke, if the paper were signed now. */
        int beginOf(Office office, int paper) {
            int strokes = office.strokes[paper];
            int clerk = office.owner[paper];
            int there = minute + fillingsFor(office, strokes) * office.fill
                + office.wayBetween(place, clerk);
            if (nib < strokes) {
                there += CHANGE_MINUTES;
            }
            return office.freeFrom(clerk, there, strokes);
        }

        boolean canWrite(Office office, int paper) {
            return office.hasPaper(paper) && !has(signed, paper)
                && beginOf(office, paper) + office.strokes[paper] <= LAST_MINUTE;
        }

        /** Signs the paper; of what it rests on only the asked papers tell. NONE, and nothing: it can't be. */
        int write(Office office, int paper, int asked) {
            if (!canWrite(office, paper)) {
                return NONE;
            }
            int strokes = office.strokes[paper];
            int end = beginOf(office, paper) + strokes;
            if (ink < strokes) {
                ink = fillingsFor(office, strokes) * office.ink;
            }
            ink -= strokes;
            nib = (nib < strokes ? office.nib : nib) - strokes;
            if (nib < 0 || restsOnNothing(office, paper, asked)) {
                voided |= 1 << paper;
            }
            nib = Math.max(nib, 0);
            signed |= 1 << paper;
            ends[paper] = end;
            minute = end;
            place = office.owner[paper];
            return end;
        }

        private boolean restsOnNothing(Office office, int paper, int asked) {
            int good = signed & ~voided;
            return !has(blanked, paper) && (office.rests[paper] & asked & ~good) != 0;
        }
    }

    /** Logs told of an earlier day. */
    private static final class Logs {
        static final int AHEAD = 0;
        static final int PLACE = 1;
        static final int STROKES = 2;

        int size;
        final int[] kinds = new int[MOST_LOGS];
        final int[] ones = new int[MOST_LOGS];
        final int[] others = new int[MOST_LOGS];

        void copyFrom(Logs other) {
            size = other.size;
            copyRow(other.kinds, kinds);
            copyRow(other.ones, ones);
            copyRow(other.others, others);
        }

        void clear() {
            size = 0;
        }

        boolean mayBeTold(int kind, int one, int other, Office office) {
            if (!office.hasPaper(one)) {
                return false;
            }
            switch (kind) {
                case AHEAD: return office.hasPaper(other) && one != other;
                case PLACE: return office.hasPaper(other);
                case STROKES: return other >= 0 && other <= 99;
                default: return false;
            }
        }

        boolean add(int kind, int one, int other) {
            if (size < 0 || size >= kinds.length || size >= ones.length || size >= others.length) {
                return false;
            }
            kinds[size] = kind;
            ones[size] = one;
            others[size] = other;
            size++;
            return true;
        }

        boolean allSo(Office office, int[] row) {
            for (int k = 0; k < size; k++) {
                if (!isSo(k, office, row)) {
                    return false;
                }
            }
            return true;
        }

        private boolean isSo(int k, Office office, int[] row) {
            int place = placeOf(ones[k], office, row);
            switch (kinds[k]) {
                case AHEAD: return place < placeOf(others[k], office, row);
                case PLACE: return place == others[k];
                default: return strokesAhead(place, office, row) == others[k];
            }
        }

        private static int placeOf(int paper, Office office, int[] row) {
            for (int place = 0; place < office.papers && place < row.length; place++) {
                if (row[place] == paper) {
                    return place;
                }
            }
            return NONE;
        }

        private static int strokesAhead(int place, Office office, int[] row) {
            int sum = 0;
            for (int k = 0; k < place && k < row.length; k++) {
                if (office.hasPaper(row[k])) {
                    sum += office.strokes[row[k]];
                }
            }
            return sum;
        }
    }

    /** All that an image holds. */
    private static final class Desk {
        final Office office = new Office();
        final Day day = new Day();
        final Logs logs = new Logs();
        int x;

        void copyFrom(Desk other) {
            office.copyFrom(other.office);
            day.copyFrom(other.day);
            logs.copyFrom(other.logs);
            x = other.x;
        }
    }

    /** The days before the last acts, the latest on top. */
    private static final class History {
        final Day[] days = new Day[MOST_ACTS];
        int top;
        int size;

        History() {
            for (int k = 0; k < days.length; k++) {
                days[k] = new Day();
            }
        }

        void clear() {
            size = 0;
        }

        void push(Day day) {
            if (top < 0 || top >= days.length) {
                return;
            }
            days[top].copyFrom(day);
            top = (top + 1) % MOST_ACTS;
            size = Math.min(size + 1, MOST_ACTS);
        }

        boolean pop(Day day) {
            int last = (top + MOST_ACTS - 1) % MOST_ACTS;
            if (size < 1 || last < 0 || last >= days.length) {
                return false;
            }
            day.copyFrom(days[last]);
            top = last;
            size--;
            return true;
        }
    }

    /** A rule as steps of a machine with a stack. */
    private static final class Rule {
        static final int NUMBER = 0;
        static final int WORD = 1;
        static final int PLUS = 2;
        static final int MINUS = 3;
        static final int TIMES = 4;
        static final int OVER = 5;
        static final int REST = 6;
        static final int LESS = 7;
        static final int LESS_EQUAL = 8;
        static final int EQUAL = 9;
        static final int MORE_EQUAL = 10;
        static final int MORE = 11;
        static final int BOTH = 12;
        static final int EITHER = 13;
        static final int NOT_SO = 14;
        /** The sum on the stack is the rule's. */
        static final int TAKE = 15;
        /** So is it, if what holds lies above it; both leave the stack else. */
        static final int TAKE_IF = 16;

        /** No step is made but for a piece of the text. */
        final int[] steps = new int[TAPE_BYTES];
        final int[] operands = new int[TAPE_BYTES];
        int size;
        /** A sum holds three values at most, a depth two, and there are ten depths. */
        final long[] stack = new long[64];

        void copyFrom(Rule other) {
            size = other.size;
            copyRow(other.steps, steps);
            copyRow(other.operands, operands);
        }

        void clear() {
            size = 0;
        }

        void add(int step, int operand) {
            if (size >= 0 && size < steps.length && size < operands.length) {
                steps[size] = step;
                operands[size] = operand;
                size++;
            }
        }

        /** The sum of the first clause that applies; 0: none does. */
        long valueFor(long[] words) {
            int top = 0;
            for (int k = 0; k < size; k++) {
                int step = steps[k];
                if (step == NUMBER || step == WORD) {
                    if (top < stack.length) {
                        stack[top] = step == NUMBER ? operands[k] : wordOf(words, operands[k]);
                        top++;
                    }
                } else if (step == NOT_SO) {
                    flip(top - 1);
                } else if (step == TAKE) {
                    return onStack(top - 1);
                } else if (step == TAKE_IF) {
                    if (onStack(top - 1) != 0) {
                        return onStack(top - 2);
                    }
                    top = 0;
                } else if (top > 1) {
                    top--;
                    stack[top - 1] = joined(step, stack[top - 1], stack[top]);
                }
            }
            return 0;
        }

        private static long wordOf(long[] words, int word) {
            return word >= 0 && word < words.length ? words[word] : 0;
        }

        private long onStack(int place) {
            return place >= 0 && place < stack.length ? stack[place] : 0;
        }

        private void flip(int place) {
            if (place >= 0 && place < stack.length) {
                stack[place] = 1 - stack[place];
            }
        }

        private static long joined(int step, long a, long b) {
            switch (step) {
                case PLUS: return a + b;
                case MINUS: return a - b;
                case TIMES: return a * b;
                case OVER: return b == 0 ? 0 : a / b;
                case REST: return b == 0 ? 0 : a % b;
                default: return holds(step, a, b) ? 1 : 0;
            }
        }

        private static boolean holds(int step, long a, long b) {
            switch (step) {
                case LESS: return a < b;
                case LESS_EQUAL: return a <= b;
                case EQUAL: return a == b;
                case MORE_EQUAL: return a >= b;
                case MORE: return a > b;
                case BOTH: return a != 0 && b != 0;
                default: return a != 0 || b != 0;
            }
        }
    }

    /** Reads the second language: a text into the steps of a rule. */
    private static final class RuleReader {
        static final int MOST_CLAUSES = 12;
        static final int MOST_DEPTH = 10;
        static final int MOST_PARTS = 60;

        final Rule draft = new Rule();
        /** Values, and facts made of a sign. */
        private int parts;

        void read(Text text) {
            parts = 0;
            draft.clear();
            for (int clause = 0; clause <= TAPE_BYTES && text.fault == 0; clause++) {
                if (!text.isWord(SIGN)) {
                    text.fail(CANT_STAND);
                } else if (clause >= MOST_CLAUSES) {
                    text.fail(BAD_CLAUSE);
                } else {
                    text.step();
                    readSum(text);
                    boolean tested = text.isWord(IF);
                    if (tested) {
                        text.step();
                        readTest(text, 0);
                    }
                    draft.add(tested ? Rule.TAKE_IF : Rule.TAKE, 0);
                }
                if (text.fault == 0 && text.kind() == Text.END) {
                    return;
                }
                text.takeMark(';');
            }
        }

        /** An or waits till the ands behind it have been joined. */
        private void readTest(Text text, int depth) {
            boolean orWaits = false;
            readFact(text, depth);
            for (int k = 0; k < TAPE_BYTES && text.fault == 0; k++) {
                boolean or = text.isWord(OR);
                if (!or && !text.isWord(AND)) {
                    break;
                }
                if (or && orWaits) {
                    draft.add(Rule.EITHER, 0);
                }
                orWaits = orWaits || or;
                text.step();
                readFact(text, depth);
                if (!or) {
                    draft.add(Rule.BOTH, 0);
                }
            }
            if (orWaits) {
                draft.add(Rule.EITHER, 0);
            }
        }

        private void readFact(Text text, int depth) {
            if (text.isWord(NOT) || text.isMark('[')) {
                readNested(text, depth);
                return;
            }
            readSum(text);
            int sign = signNext(text);
            if (sign == NONE) {
                text.fail(CANT_STAND);
            } else if (parts >= MOST_PARTS) {
                text.fail(TOO_MANY_PARTS);
            } else {
                parts++;
                text.step();
                readSum(text);
                draft.add(sign, 0);
            }
        }

        private void readNested(Text text, int depth) {
            if (depth >= MOST_DEPTH) {
                text.fail(TOO_DEEP);
                return;
            }
            boolean not = text.isWord(NOT);
            text.step();
            if (not) {
                readFact(text, depth + 1);
                draft.add(Rule.NOT_SO, 0);
            } else {
                readTest(text, depth + 1);
                text.takeMark(']');
            }
        }

        private int signNext(Text text) {
            if (text.kind() != Text.MARK) {
                return NONE;
            }
            switch (text.value()) {
                case '<': return Rule.LESS;
                case '<' + Text.OR_EQUAL: return Rule.LESS_EQUAL;
                case '=': return Rule.EQUAL;
                case '>' + Text.OR_EQUAL: return Rule.MORE_EQUAL;
                case '>': return Rule.MORE;
                default: return NONE;
            }
        }

        /** A plus or minus waits till the term behind it has been joined. */
        private void readSum(Text text) {
            int waiting = NONE;
            readValue(text);
            for (int k = 0; k < TAPE_BYTES && text.fault == 0; k++) {
                int step = operatorNext(text);
                if (step == NONE) {
                    break;
                }
                boolean endsTerm = step == Rule.PLUS || step == Rule.MINUS;
                if (endsTerm && waiting != NONE) {
                    draft.add(waiting, 0);
                }
                waiting = endsTerm ? step : waiting;
                text.step();
                readValue(text);
                if (!endsTerm) {
                    draft.add(step, 0);
                }
            }
            if (waiting != NONE) {
                draft.add(waiting, 0);
            }
        }

        private int operatorNext(Text text) {
            if (text.kind() != Text.MARK) {
                return NONE;
            }
            switch (text.value()) {
                case '+': return Rule.PLUS;
                case '-': return Rule.MINUS;
                case '*': return Rule.TIMES;
                case '/': return Rule.OVER;
                case '%': return Rule.REST;
                default: return NONE;
            }
        }

        private void readValue(Text text) {
            boolean number = text.kind() == Text.NUMBER;
            int value = text.value();
            boolean word = text.kind() == Text.WORD && value >= 0 && value < VALUE_WORDS;
            if (!number && !word) {
                text.fail(CANT_STAND);
            } else if (number && value == NONE) {
                text.fail(BAD_NUMBER);
            } else if (parts >= MOST_PARTS) {
                text.fail(TOO_MANY_PARTS);
            } else {
                parts++;
                draft.add(number ? Rule.NUMBER : Rule.WORD, value);
                text.step();
            }
        }
    }

    /** Papers signed by a rule, from a day on, till there is none. */
    private static final class RuleRun {
        final Day day = new Day();
        final int[] row = new int[MOST_PAPERS];
        int size;
        private final long[] words = new long[VALUE_WORDS];

        void run(Office office, Day from, Rule rule) {
            day.copyFrom(from);
            size = 0;
            for (int n = 0; n < row.length; n++) {
                int paper = choose(office, rule);
                if (paper == NONE || day.write(office, paper, ALL) == NONE) {
                    return;
                }
                row[n] = paper;
                size++;
            }
        }

        private int choose(Office office, Rule rule) {
            int best = NONE;
            long most = 0;
            for (int paper = 0; paper < office.papers; paper++) {
                if (day.canWrite(office, paper)) {
                    for (int word = 0; word < words.length; word++) {
                        words[word] = wordOf(office, word, paper);
                    }
                    long value = rule.valueFor(words);
                    if (value > most) {
                        most = value;
                        best = paper;
                    }
                }
            }
            return best;
        }

        private int wordOf(Office office, int word, int paper) {
            int unsigned = day.unsigned(office);
            switch (word) {
                case 0: return paper;
                case 1: return office.owner[paper];
                case 2: return office.strokes[paper];
                case 3: return office.due[paper];
                case 4: return office.worth[paper];
                case 5: return office.wayBetween(day.place, office.owner[paper]);
                case 6: return office.due[paper] - day.minute;
                case 7: return Integer.bitCount(office.rests[paper] & unsigned);
                case 8: return office.restingOn(paper, unsigned);
                case 9: return day.ink;
                case 10: return day.nib;
                case 11: return day.minute;
                default: return day.beginOf(office, paper);
            }
        }

        int waitOf(Office office, int clerk, int since) {
            int last = since;
            int strokes = 0;
            for (int k = 0; k < size && k < row.length; k++) {
                int paper = row[k];
                if (office.hasPaper(paper) && office.owner[paper] == clerk) {
                    last = day.ends[paper];
                    strokes += office.strokes[paper];
                }
            }
            return last - since - strokes;
        }
    }

    /** Looks through rows of papers not signed. */
    private static final class Planner {
        int bestWorth;
        int bestMinute;
        int bestSize;
        final int[] bestRow = new int[MOST_PAPERS];
        /** The papers that may be in a row, and those that are asked of what rests. */
        private int pool;
        private int asked;
        private final int[] row = new int[MOST_PAPERS];
        private final Day[] days = new Day[MOST_PAPERS + 1];
        private int mostInTime;

        Planner() {
            for (int k = 0; k < days.length; k++) {
                days[k] = new Day();
            }
        }

        /** Answers the most worth in time. */
        int search(Office office, Day from, int mayBe, int areAsked) {
            pool = mayBe;
            asked = areAsked;
            days[0].copyFrom(from);
            bestWorth = NONE;
            seek(this, office, 0);
            return bestWorth;
        }

        /** Rows are met the first ahead of later ones, so that only a better one takes the place. */
        private static void seek(Planner planner, Office office, int depth) {
            if (depth < 0 || depth > MOST_PAPERS) {
                return;
            }
            Day here = planner.days[depth];
            planner.weigh(office, here, depth);
            for (int paper = 0; paper < office.papers && depth < MOST_PAPERS; paper++) {
                Day next = planner.days[depth + 1];
                next.copyFrom(here);
                if (has(planner.pool, paper)
                        && next.write(office, paper, planner.asked) != NONE
                        && !has(next.voided, paper)) {
                    planner.row[depth] = paper;
                    seek(planner, office, depth + 1);
                }
            }
        }

        private void weigh(Office office, Day day, int size) {
            int worth = day.worthInTime(office);
            if (worth > bestWorth || worth == bestWorth && day.minute < bestMinute) {
                bestWorth = worth;
                bestMinute = day.minute;
                bestSize = size;
                copyRow(row, bestRow);
            }
        }

        int bestPapers() {
            int bits = 0;
            for (int k = 0; k < bestSize && k < bestRow.length; k++) {
                bits |= 1 << bestRow[k];
            }
            return bits;
        }

        /** The least worth not in time, if all are signed; -2: they can't be. */
        int leastLate(Office office, Day from) {
            days[0].copyFrom(from);
            mostInTime = NONE;
            seekAll(this, office, 0);
            if (mostInTime == NONE) {
                return -2;
            }
            int open = from.unsigned(office);
            int whole = from.worthInTime(office);
            for (int paper = 0; paper < office.papers; paper++) {
                whole += has(open, paper) ? office.worth[paper] : 0;
            }
            return whole - mostInTime;
        }

        private static void seekAll(Planner planner, Office office, int depth) {
            if (depth < 0 || depth > MOST_PAPERS) {
                return;
            }
            Day here = planner.days[depth];
            if (here.unsigned(office) == 0) {
                planner.mostInTime = Math.max(planner.mostInTime, here.worthInTime(office));
                return;
            }
            for (int paper = 0; paper < office.papers && depth < MOST_PAPERS; paper++) {
                Day next = planner.days[depth + 1];
                next.copyFrom(here);
                if (next.write(office, paper, ALL) != NONE) {
                    seekAll(planner, office, depth + 1);
                }
            }
        }
    }

    /** The rows of all papers by which all logs are so. */
    private static final class Orders {
        int total;
        final int[] first = new int[MOST_PAPERS];
        /** How often a paper stands in a place: MOST_PAPERS for each place. */
        private final int[] tally = new int[MOST_PAPERS * MOST_PAPERS];
        private final int[] row = new int[MOST_PAPERS];

        void find(Office office, Logs logs) {
            total = 0;
            fillRow(tally, 0);
            seek(this, office, logs, 0, 0);
        }

        private static void seek(Orders orders, Office office, Logs logs, int depth, int used) {
            if (depth < 0 || depth >= office.papers || depth >= MOST_PAPERS) {
                orders.weigh(office, logs);
                return;
            }
            for (int paper = 0; paper < office.papers; paper++) {
                if (!has(used, paper)) {
                    orders.row[depth] = paper;
                    seek(orders, office, logs, depth + 1, used | 1 << paper);
                }
            }
        }

        private void weigh(Office office, Logs logs) {
            if (!logs.allSo(office, row)) {
                return;
            }
            if (total == 0) {
                copyRow(row, first);
            }
            total++;
            for (int place = 0; place < office.papers; place++) {
                tally[place * MOST_PAPERS + row[place]]++;
            }
        }

        int papersAt(int place) {
            int bits = 0;
            for (int paper = 0; paper < MOST_PAPERS; paper++) {
                if (tally[place * MOST_PAPERS + paper] > 0) {
                    bits |= 1 << paper;
                }
            }
            return bits;
        }

        int mostAlikeAt(int place) {
            int most = 0;
            for (int paper = 0; paper < MOST_PAPERS; paper++) {
                most = Math.max(most, tally[place * MOST_PAPERS + paper]);
            }
            return most;
        }
    }
}
