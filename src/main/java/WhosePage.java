import java.util.Arrays;

/**
 * Whose page is that: jobs of sheets sent to one machine, its tray, and those who take of it.
 *
 * <p>The words in capitals in the comments are the terms of the document. Every row is made in a
 * constructor and used again, for all calls of a run share one room.
 */
public final class WhosePage {
    private static final int NOBODY = -1;
    private static final int OTHER = -2;
    private static final int STATE = -3;
    private static final int BELOW = -4;
    private static final int ROOM = -6;
    private static final int NEVER_OUT = -8;
    private static final int NONE = -9;

    private static final int REFUSAL_CODES = 7;
    private static final int COUNT_OF_REFUSALS = 10;
    private static final int GRAMMAR_FAULT = -1000;
    private static final int MEANING_FAULT = -2000;

    private static final int OWNERS = 4;
    private static final int MOST_JOBS = 6;
    private static final int MOST_SHEETS = 9;
    private static final int MOST_TAKERS = 6;
    private static final int MOST_FIGURE = 9;
    private static final int MINUTES = 100;
    private static final int LAST_MINUTE = MINUTES - 1;
    private static final int SEND_MINUTES = 60;
    private static final int MOST_LETTERS = 80;
    private static final int GREATEST_LETTER = 255;
    private static final int MOST_IN_ROW = 20;
    private static final int ROW_NUMBERS = 100;
    private static final int LEAST_PLACES = 2;
    private static final int MOST_PLACES = 9;
    private static final int MOST_STEPS = 30;
    private static final int MOST_DAYS = 20;

    /** A SHEET is told as TEN times its JOB and its number. */
    private static final int TEN = 10;
    private static final int SHEET_CODES = MOST_JOBS * TEN;

    private static final String MACHINE_KINDS = "fstoab";
    private static final int FIRST = 0;
    private static final int SHORT = 1;
    private static final int TURN = 2;
    private static final int OVER = 3;
    private static final int AGAIN = 4;
    private static final int BOSS = 5;

    private static final String TAKER_KINDS = "aohndc";
    private static final int OWN = 1;
    private static final int HANDFUL = 2;
    private static final int NEAT = 3;
    private static final int DEEP = 4;
    private static final int CLERK = 5;

    /** Bits of all JOBS that there may be. */
    private static final int EVERY_JOB = (1 << MOST_JOBS) - 1;

    private static final int DRAW_FACTOR = 1664525;
    private static final int DRAW_STEP = 1013904223;
    private static final int WITHOUT_SIGN = 0x7fffffff;
    private static final int DRAW_CUT = 256;

    private final Plan plan = new Plan();
    private final Plan kept = new Plan();
    /** What is only tried (a text not yet found good, another KIND, other MINUTES) is tried here. */
    private final Plan draft = new Plan();
    private final Text text = new Text();
    private final Press press = new Press();
    private final Day day = new Day();
    private final Row told = new Row();
    private final int[] refusals = new int[REFUSAL_CODES];
    private boolean imageTaken = false;

    /** A FIRST machine, no JOBS, no TAKERS. */
    public WhosePage() {
    }

    /** A letter comes: how many there are. */
    public int letter(int c) {
        if (c < 0) {
            return refuse(BELOW);
        }
        if (c > GREATEST_LETTER || text.many >= MOST_LETTERS) {
            return refuse(ROOM);
        }
        return text.add(c);
    }

    /** The letters become a FLOOR, and are no more: how many STATEMENTS, or the FAULT. */
    public int floor() {
        int wrong = text.wrongPlace();
        int answer = wrong >= 0 ? GRAMMAR_FAULT - wrong : tellStatements();
        text.clear();
        return answer;
    }

    /** Of a JOB: 0 OWNER, 1 SHEETS, 2 SENT. */
    public int job(int job, int what) {
        if (!plan.hasJob(job)) {
            return refuse(NOBODY);
        }
        switch (what) {
            case 0:
                return plan.jobOwner[job];
            case 1:
                return plan.jobSheets[job];
            case 2:
                return plan.jobSent[job];
            default:
                return refuse(OTHER);
        }
    }

    /** Of a TAKER: 0 KIND, 1 OWNER, 2 FIGURE, 3 MINUTE. */
    public int taker(int taker, int what) {
        if (!plan.hasTaker(taker)) {
            return refuse(NOBODY);
        }
        switch (what) {
            case 0:
                return plan.takerKind[taker];
            case 1:
                return plan.takerOwner[taker];
            case 2:
                return plan.takerFigure[taker];
            case 3:
                return plan.takerMinute[taker];
            default:
                return refuse(OTHER);
        }
    }

    /** SENT becomes that: what it was. */
    public int sent(int job, int minute) {
        if (!plan.hasJob(job)) {
            return refuse(NOBODY);
        }
        if (minute < 0) {
            return refuse(BELOW);
        }
        if (minute >= SEND_MINUTES) {
            return refuse(ROOM);
        }
        int was = plan.jobSent[job];
        plan.jobSent[job] = minute;
        return was;
    }

    /** The MACHINE: ten times the KIND and STOP it was. */
    public int machine(int kind, int stop) {
        if (kind < 0 || kind >= MACHINE_KINDS.length()) {
            return refuse(OTHER);
        }
        if (stop < 0) {
            return refuse(BELOW);
        }
        if (stop > MOST_FIGURE) {
            return refuse(ROOM);
        }
        int was = TEN * plan.kind + plan.stop;
        plan.setMachine(kind, stop);
        return was;
    }

    /** A TAKER comes in another MINUTE: what it was. */
    public int comes(int taker, int minute) {
        if (!plan.hasTaker(taker)) {
            return refuse(NOBODY);
        }
        if (minute < 0) {
            return refuse(BELOW);
        }
        if (minute >= MINUTES) {
            return refuse(ROOM);
        }
        int was = plan.takerMinute[taker];
        plan.takerMinute[taker] = minute;
        return was;
    }

    /** OUT: the k-th SHEET (what 0), its MINUTE (1). */
    public int out(int k, int what) {
        if (k < 0) {
            return refuse(BELOW);
        }
        if (!isZeroOrOne(what)) {
            return refuse(OTHER);
        }
        day.passThrough(plan, LAST_MINUTE);
        return what == 0 ? day.sheetOut(k) : day.minuteOut(k);
    }

    /** OUT: how many. */
    public int outMany() {
        day.passThrough(plan, LAST_MINUTE);
        return day.outs;
    }

    /** LIES behind a MINUTE: how many (i -1), the i-th from the top. */
    public int lies(int minute, int i) {
        if (minute < 0 || i < -1) {
            return refuse(BELOW);
        }
        if (minute >= MINUTES) {
            return refuse(ROOM);
        }
        day.passThrough(plan, minute);
        return i == -1 ? day.tray.many : day.tray.fromTop(i);
    }

    /** HAS: of his own (what 0), of others (1). */
    public int held(int owner, int what) {
        if (!isOwner(owner)) {
            return refuse(NOBODY);
        }
        if (!isZeroOrOne(what)) {
            return refuse(OTHER);
        }
        day.passThrough(plan, LAST_MINUTE);
        return day.heldBy(plan, owner, what == 0);
    }

    /** WHO has a SHEET: an OWNER; -9 it lies; -8 it never came out. */
    public int who(int sheet) {
        if (!plan.hasSheet(sheet)) {
            return refuse(NOBODY);
        }
        day.passThrough(plan, LAST_MINUTE);
        return day.holderOf(sheet);
    }

    /** MISSING of an OWNER. */
    public int missing(int owner) {
        if (!isOwner(owner)) {
            return refuse(NOBODY);
        }
        day.passThrough(plan, LAST_MINUTE);
        return plan.sheetsOf(owner) - day.heldBy(plan, owner, true);
    }

    /** ASK: the others (bits) who have one of his. */
    public int ask(int owner) {
        if (!isOwner(owner)) {
            return refuse(NOBODY);
        }
        day.passThrough(plan, LAST_MINUTE);
        return day.othersWith(plan, owner);
    }

    /** READY; -9. */
    public int ready(int owner) {
        if (!isOwner(owner)) {
            return refuse(NOBODY);
        }
        day.passThrough(plan, LAST_MINUTE);
        return day.lastFirstOut(plan, owner);
    }

    /** MIXED. */
    public int mixed() {
        return press.mixedIn(plan);
    }

    /** BY KINDS: the KIND of MACHINE with which least is MIXED. */
    public int byKind() {
        draft.copyFrom(plan);
        int best = FIRST;
        int least = 0;
        for (int kind = 0; kind < MACHINE_KINDS.length(); kind++) {
            draft.setMachine(kind, plan.stop);
            int mixed = press.mixedIn(draft);
            if (kind == FIRST || mixed < least) {
                best = kind;
                least = mixed;
            }
        }
        return best;
    }

    /** SEND: the MINUTE at which, SENT then, least is MIXED (what 0), MIXED then (1). */
    public int send(int job, int what) {
        if (!plan.hasJob(job)) {
            return refuse(NOBODY);
        }
        if (!isZeroOrOne(what)) {
            return refuse(OTHER);
        }
        draft.copyFrom(plan);
        int best = 0;
        int least = 0;
        for (int minute = 0; minute < SEND_MINUTES; minute++) {
            draft.jobSent[job] = minute;
            int mixed = press.mixedIn(draft);
            if (minute == 0 || mixed < least) {
                best = minute;
                least = mixed;
            }
        }
        return what == 0 ? best : least;
    }

    /** TWO: in how many ways the ROW is run together of two JOBS. */
    public int two(int one, int other) {
        if (!areTwoJobs(one, other)) {
            return refuse(NOBODY);
        }
        return told.waysOfThree(plan.jobSheets[one], plan.jobSheets[other], 0);
    }

    /** THREE: in how many ways the ROW is run together of three JOBS. */
    public int three(int one, int other, int third) {
        if (!areTwoJobs(one, other) || !areTwoJobs(one, third) || !areTwoJobs(other, third)) {
            return refuse(NOBODY);
        }
        return told.waysOfThree(plan.jobSheets[one], plan.jobSheets[other], plan.jobSheets[third]);
    }

    /** PARTS of the ROW. */
    public int parts() {
        return told.fewestParts();
    }

    /** LACKS of a JOB: its numbers (bits 1 .. 9) that are not in the ROW. */
    public int lacks(int job) {
        if (!plan.hasJob(job)) {
            return refuse(NOBODY);
        }
        return told.numbersLacking(job, plan.jobSheets[job]);
    }

    /** LAPS on so many places. */
    public int laps(int places) {
        if (places < LEAST_PLACES) {
            return refuse(BELOW);
        }
        if (places > MOST_PLACES) {
            return refuse(ROOM);
        }
        return told.fewestLaps(places);
    }

    /** WAIT; -9. */
    public int waits(int owner, int minute, int way) {
        if (!isOwner(owner)) {
            return refuse(NOBODY);
        }
        if (minute < 0 || way < 0) {
            return refuse(BELOW);
        }
        if (minute >= MINUTES || way > MOST_STEPS) {
            return refuse(ROOM);
        }
        day.passThrough(plan, LAST_MINUTE);
        int ready = day.lastFirstOut(plan, owner);
        return ready < 0 ? NONE : Math.max(0, ready - minute - way);
    }

    /** VAIN; -9. */
    public int vain(int owner, int minute, int each) {
        if (!isOwner(owner)) {
            return refuse(NOBODY);
        }
        if (minute < 0 || each < 1) {
            return refuse(BELOW);
        }
        if (minute >= MINUTES || each > MOST_STEPS) {
            return refuse(ROOM);
        }
        day.passThrough(plan, LAST_MINUTE);
        int ready = day.lastFirstOut(plan, owner);
        if (ready < 0) {
            return NONE;
        }
        return minute >= ready ? 0 : (ready - minute - 1) / each + 1;
    }

    /** SEEN: behind how many MINUTES the tray looked as the ROW (what 0), the first (1; -9). */
    public int seen(int what) {
        if (!isZeroOrOne(what)) {
            return refuse(OTHER);
        }
        int times = 0;
        int first = NONE;
        day.begin(plan);
        for (int minute = 0; minute < MINUTES; minute++) {
            day.passMinute(plan, minute);
            if (day.tray.looksAs(told)) {
                times++;
                first = first == NONE ? minute : first;
            }
        }
        return what == 0 ? times : first;
    }

    /** A number more of the ROW: how many. */
    public int row(int v) {
        if (v < 0) {
            return refuse(BELOW);
        }
        if (v >= ROW_NUMBERS || told.many >= MOST_IN_ROW) {
            return refuse(ROOM);
        }
        return told.add(v);
    }

    /** JUDGED: the first of the ROW that is not as OUT; -9 none. The ROW has none then. */
    public int judge() {
        day.passThrough(plan, LAST_MINUTE);
        int answer = NONE;
        for (int i = 0; i < told.many && answer == NONE; i++) {
            if (day.sheetOut(i) != told.numbers[i]) {
                answer = i;
            }
        }
        told.clear();
        return answer;
    }

    /** LOTS: MIXED of n DAYS together, all JOBS SENT by lot. */
    public int lots(int n, int z) {
        if (n < 1) {
            return refuse(BELOW);
        }
        if (n > MOST_DAYS) {
            return refuse(ROOM);
        }
        draft.copyFrom(plan);
        int seed = z;
        int sum = 0;
        for (int i = 0; i < n; i++) {
            for (int job = 0; job < draft.jobs; job++) {
                seed = seed * DRAW_FACTOR + DRAW_STEP;
                draft.jobSent[job] = (seed & WITHOUT_SIGN) / DRAW_CUT % SEND_MINUTES;
            }
            sum += press.mixedIn(draft);
        }
        return sum;
    }

    /** THE IMAGE is taken: how many JOBS. */
    public int image() {
        kept.copyFrom(plan);
        imageTaken = true;
        return plan.jobs;
    }

    /** ON from THE IMAGE: how many JOBS. */
    public int on() {
        if (!imageTaken) {
            return refuse(STATE);
        }
        plan.copyFrom(kept);
        return plan.jobs;
    }

    /** How many there are of what; -9 for another what. */
    public int count(int what) {
        switch (what) {
            case 0:
                return plan.jobs;
            case 1:
                return plan.allSheets();
            case 2:
                return plan.takers;
            case 3:
                return plan.kind;
            case 4:
                return plan.stop;
            case 5:
                return told.many;
            case 6:
                return text.many;
            default:
                return refusalsCounted(what - COUNT_OF_REFUSALS);
        }
    }

    private int refusalsCounted(int number) {
        return number >= 1 && number < REFUSAL_CODES ? refusals[number] : NONE;
    }

    private int refuse(int code) {
        int number = -code;
        if (number >= 1 && number < REFUSAL_CODES) {
            refusals[number]++;
        }
        return code;
    }

    /** The draft becomes the plan only behind the last STATEMENT: with a FAULT nothing comes. */
    private int tellStatements() {
        draft.copyFrom(plan);
        text.place = 0;
        int statements = 0;
        while (statements < MOST_LETTERS && text.place < text.many) {
            int begin = text.place;
            if (!text.readStatement() || !text.tellTo(draft)) {
                return MEANING_FAULT - begin;
            }
            statements++;
        }
        plan.copyFrom(draft);
        return statements;
    }

    private boolean areTwoJobs(int one, int other) {
        return plan.hasJob(one) && plan.hasJob(other) && one != other;
    }

    private static boolean isOwner(int owner) {
        return owner >= 0 && owner < OWNERS;
    }

    private static boolean isZeroOrOne(int what) {
        return what == 0 || what == 1;
    }

    /** All that is told of a floor, which is just what THE IMAGE keeps. */
    private static final class Plan {
        final int[] jobOwner = new int[MOST_JOBS];
        final int[] jobSheets = new int[MOST_JOBS];
        final int[] jobSent = new int[MOST_JOBS];
        final int[] takerKind = new int[MOST_TAKERS];
        final int[] takerOwner = new int[MOST_TAKERS];
        final int[] takerFigure = new int[MOST_TAKERS];
        final int[] takerMinute = new int[MOST_TAKERS];
        int jobs = 0;
        int takers = 0;
        int kind = FIRST;
        int stop = 0;

        boolean hasJob(int job) {
            return job >= 0 && job < jobs;
        }

        boolean hasTaker(int taker) {
            return taker >= 0 && taker < takers;
        }

        boolean hasSheet(int sheet) {
            if (sheet < 0 || !hasJob(sheet / TEN)) {
                return false;
            }
            int number = sheet % TEN;
            return number >= 1 && number <= jobSheets[sheet / TEN];
        }

        boolean isOf(int sheet, int owner) {
            return hasSheet(sheet) && jobOwner[sheet / TEN] == owner;
        }

        /** False, and nothing is changed, if the JOB is not as it must be. */
        boolean addJob(int owner, int sheets, int minute) {
            boolean inRange = isOwner(owner) && sheets >= 1 && sheets <= MOST_SHEETS
                    && minute >= 0 && minute < SEND_MINUTES;
            if (!inRange || jobs >= MOST_JOBS) {
                return false;
            }
            jobOwner[jobs] = owner;
            jobSheets[jobs] = sheets;
            jobSent[jobs] = minute;
            jobs++;
            return true;
        }

        /** False, and nothing is changed, if the TAKER is not as he must be. */
        boolean addTaker(int takersKind, int owner, int figure, int minute) {
            boolean inRange = isOwner(owner) && minute >= 0 && minute < MINUTES;
            if (!inRange || takers >= MOST_TAKERS) {
                return false;
            }
            takerKind[takers] = takersKind;
            takerOwner[takers] = owner;
            takerFigure[takers] = figure;
            takerMinute[takers] = minute;
            takers++;
            return true;
        }

        void setMachine(int machineKind, int machineStop) {
            kind = machineKind;
            stop = machineStop;
        }

        int allSheets() {
            int sum = 0;
            for (int job = 0; job < jobs; job++) {
                sum += jobSheets[job];
            }
            return sum;
        }

        int sheetsOf(int owner) {
            int sum = 0;
            for (int job = 0; job < jobs; job++) {
                sum += jobOwner[job] == owner ? jobSheets[job] : 0;
            }
            return sum;
        }

        /** The JOBS of an OWNER as bits. */
        int jobsOf(int owner) {
            int bits = 0;
            for (int job = 0; job < jobs; job++) {
                bits |= jobOwner[job] == owner ? 1 << job : 0;
            }
            return bits;
        }

        void copyFrom(Plan other) {
            System.arraycopy(other.jobOwner, 0, jobOwner, 0, MOST_JOBS);
            System.arraycopy(other.jobSheets, 0, jobSheets, 0, MOST_JOBS);
            System.arraycopy(other.jobSent, 0, jobSent, 0, MOST_JOBS);
            System.arraycopy(other.takerKind, 0, takerKind, 0, MOST_TAKERS);
            System.arraycopy(other.takerOwner, 0, takerOwner, 0, MOST_TAKERS);
            System.arraycopy(other.takerFigure, 0, takerFigure, 0, MOST_TAKERS);
            System.arraycopy(other.takerMinute, 0, takerMinute, 0, MOST_TAKERS);
            jobs = other.jobs;
            takers = other.takers;
            kind = other.kind;
            stop = other.stop;
        }
    }

    /** The letters of a FLOOR, and the STATEMENT read latest in them. */
    private static final class Text {
        private final int[] letters = new int[MOST_LETTERS];
        int many = 0;
        int place = 0;
        private int head = 0;
        private int kind = 0;
        private int owner = 0;
        private int figure = 0;
        private int minute = 0;

        int add(int c) {
            if (many < MOST_LETTERS) {
                letters[many] = c;
                many++;
            }
            return many;
        }

        void clear() {
            many = 0;
        }

        /** The place of the first letter with which no FLOOR can go on; NONE without one. */
        int wrongPlace() {
            place = 0;
            for (int statements = 0; statements < MOST_LETTERS; statements++) {
                if (!readStatement()) {
                    return place;
                }
                if (place >= many) {
                    return NONE;
                }
            }
            return NONE;
        }

        /** Where it goes wrong, the place stays at the letter that can't be there. */
        boolean readStatement() {
            head = place < many ? letters[place] : 0;
            switch (head) {
                case 'j':
                    place++;
                    return readOwnerFigureMinute();
                case 'm':
                    place++;
                    return readKind(MACHINE_KINDS) && readFigure() && readSign(';');
                case 't':
                    place++;
                    return readKind(TAKER_KINDS) && readOwnerFigureMinute();
                default:
                    return false;
            }
        }

        /** Tells the STATEMENT just read; false if it is not as it must be. */
        boolean tellTo(Plan plan) {
            switch (head) {
                case 'j':
                    return plan.addJob(owner, figure, minute);
                case 't':
                    return plan.addTaker(kind, owner, figure, minute);
                default:
                    plan.setMachine(kind, figure);
                    return true;
            }
        }

        /** A JOB and a TAKER end alike: SHEETS stand where a FIGURE does, SENT where a MINUTE. */
        private boolean readOwnerFigureMinute() {
            owner = readDigit();
            return owner >= 0 && readFigure() && readSign(',') && readMinute() && readSign(';');
        }

        private boolean readKind(String kinds) {
            kind = place < many ? kinds.indexOf((char) letters[place]) : NONE;
            if (kind < 0) {
                return false;
            }
            place++;
            return true;
        }

        private boolean readFigure() {
            figure = readDigit();
            return figure >= 0;
        }

        private boolean readMinute() {
            minute = readDigit();
            if (minute < 0) {
                return false;
            }
            int second = readDigit();
            if (second >= 0) {
                minute = TEN * minute + second;
            }
            return true;
        }

        private int readDigit() {
            if (place >= many || letters[place] < '0' || letters[place] > '9') {
                return NONE;
            }
            int digit = letters[place] - '0';
            place++;
            return digit;
        }

        private boolean readSign(char sign) {
            if (place >= many || letters[place] != sign) {
                return false;
            }
            place++;
            return true;
        }
    }

    /** The MACHINE in a DAY: MIXED hangs on it alone, so it can run without tray and TAKERS. */
    private static final class Press {
        private final int[] left = new int[MOST_JOBS];
        private int leftInAll = 0;
        private int latest = NONE;
        private int sinceAgain = 0;
        private int mixed = 0;

        void begin(Plan plan) {
            for (int job = 0; job < plan.jobs; job++) {
                left[job] = plan.jobSheets[job];
            }
            leftInAll = plan.allSheets();
            latest = NONE;
            sinceAgain = 0;
            mixed = 0;
        }

        /** The SHEET that is put out in this MINUTE; NONE without one. */
        int putOut(Plan plan, int minute) {
            if (plan.kind == AGAIN && plan.stop > 0 && sinceAgain >= plan.stop) {
                sinceAgain = 0;
                return latest;
            }
            int job = chosenJob(plan, minute);
            if (job == NONE) {
                return NONE;
            }
            if (latest != NONE && latest / TEN != job) {
                mixed++;
            }
            latest = TEN * job + plan.jobSheets[job] - left[job] + 1;
            left[job]--;
            leftInAll--;
            sinceAgain++;
            return latest;
        }

        /** Ends when nothing is left: what comes AGAIN is of the JOB ahead and mixes nothing. */
        int mixedIn(Plan plan) {
            begin(plan);
            for (int minute = 0; minute < MINUTES && leftInAll > 0; minute++) {
                putOut(plan, minute);
            }
            return mixed;
        }

        private int chosenJob(Plan plan, int minute) {
            int chosen = NONE;
            for (int job = 0; job < plan.jobs; job++) {
                boolean waiting = left[job] > 0 && plan.jobSent[job] <= minute;
                if (waiting && (chosen == NONE || isAhead(plan, job, chosen))) {
                    chosen = job;
                }
            }
            return chosen;
        }

        /** Strictly ahead, so that of several the least number stays. */
        private boolean isAhead(Plan plan, int job, int other) {
            if (plan.kind == TURN) {
                return turnsUntil(job) < turnsUntil(other);
            }
            if (plan.kind == BOSS && plan.jobOwner[job] != plan.jobOwner[other]) {
                return plan.jobOwner[job] < plan.jobOwner[other];
            }
            boolean shortFirst = plan.kind == SHORT || plan.kind == BOSS;
            if (shortFirst && left[job] != left[other]) {
                return left[job] < left[other];
            }
            return plan.jobSent[job] < plan.jobSent[other];
        }

        /** How many numbers lie between the JOB of the latest SHEET and this one, going round. */
        private int turnsUntil(int job) {
            if (latest == NONE) {
                return job;
            }
            int between = job - latest / TEN - 1;
            return between < 0 ? between + MOST_JOBS : between;
        }
    }

    /** The tray: its SHEETS from the bottom up. */
    private static final class Tray {
        private final int[] sheets = new int[MINUTES];
        private final int[] numbersLying = new int[MOST_JOBS];
        int many = 0;

        void putUpon(int sheet) {
            if (many < MINUTES) {
                sheets[many] = sheet;
                many++;
            }
        }

        void putBeneath(int sheet) {
            if (many < MINUTES) {
                System.arraycopy(sheets, 0, sheets, 1, many);
                sheets[0] = sheet;
                many++;
            }
        }

        int fromTop(int i) {
            return i >= 0 && i < many ? sheets[many - 1 - i] : NONE;
        }

        boolean looksAs(Row row) {
            if (row.many != many) {
                return false;
            }
            for (int i = 0; i < many; i++) {
                if (fromTop(i) != row.numbers[i]) {
                    return false;
                }
            }
            return true;
        }

        /** The TAKER takes, and what he takes is his OWNER's among the holders from then on. */
        void giveTo(Plan plan, int taker, int[] holders) {
            int kind = plan.takerKind[taker];
            int owner = plan.takerOwner[taker];
            int figure = plan.takerFigure[taker];
            int from = kind == HANDFUL ? many - figure : 0;
            int end = kind == DEEP ? figure : many;
            int jobs = jobsWanted(plan, kind, owner);
            int staying = 0;
            for (int i = 0; i < many; i++) {
                int sheet = sheets[i];
                if (i >= from && i < end && hasBit(jobs, sheet / TEN)) {
                    holders[sheet] = owner;
                } else {
                    sheets[staying] = sheet;
                    staying++;
                }
            }
            many = staying;
        }

        /** The JOBS (bits) whose SHEETS a TAKER of this KIND would take. */
        private int jobsWanted(Plan plan, int kind, int owner) {
            int own = plan.jobsOf(owner);
            switch (kind) {
                case OWN:
                    return own;
                case NEAT:
                    return (wholeJobs(plan) & own) != 0 ? own : 0;
                case CLERK:
                    return wholeJobs(plan) & own;
                default:
                    return EVERY_JOB;
            }
        }

        /** The JOBS (bits) that lie here with each number at least once. */
        private int wholeJobs(Plan plan) {
            Arrays.fill(numbersLying, 0);
            for (int i = 0; i < many; i++) {
                numbersLying[sheets[i] / TEN] |= 1 << (sheets[i] % TEN);
            }
            int whole = 0;
            for (int job = 0; job < plan.jobs; job++) {
                whole |= numbersLying[job] == bitsUpTo(plan.jobSheets[job]) ? 1 << job : 0;
            }
            return whole;
        }
    }

    /** A DAY: OUT, the tray, and who has which SHEET. */
    private static final class Day {
        private final Press press = new Press();
        final Tray tray = new Tray();
        private final int[] outSheets = new int[MINUTES];
        private final int[] outMinutes = new int[MINUTES];
        int outs = 0;
        private final int[] firstOut = new int[SHEET_CODES];
        private final int[] holders = new int[SHEET_CODES];

        void begin(Plan plan) {
            press.begin(plan);
            tray.many = 0;
            outs = 0;
            Arrays.fill(firstOut, NONE);
            Arrays.fill(holders, NONE);
        }

        void passThrough(Plan plan, int lastMinute) {
            begin(plan);
            for (int minute = 0; minute <= lastMinute; minute++) {
                passMinute(plan, minute);
            }
        }

        void passMinute(Plan plan, int minute) {
            int sheet = press.putOut(plan, minute);
            if (plan.hasSheet(sheet) && outs < MINUTES) {
                noteOut(sheet, minute);
                if (plan.kind == OVER) {
                    tray.putBeneath(sheet);
                } else {
                    tray.putUpon(sheet);
                }
            }
            for (int taker = 0; taker < plan.takers; taker++) {
                if (plan.takerMinute[taker] == minute) {
                    tray.giveTo(plan, taker, holders);
                }
            }
        }

        private void noteOut(int sheet, int minute) {
            outSheets[outs] = sheet;
            outMinutes[outs] = minute;
            outs++;
            if (firstOut[sheet] == NONE) {
                firstOut[sheet] = minute;
            }
        }

        int sheetOut(int k) {
            return k >= 0 && k < outs ? outSheets[k] : NONE;
        }

        int minuteOut(int k) {
            return k >= 0 && k < outs ? outMinutes[k] : NONE;
        }

        int holderOf(int sheet) {
            if (sheet < 0 || sheet >= SHEET_CODES || firstOut[sheet] == NONE) {
                return NEVER_OUT;
            }
            return holders[sheet];
        }

        /** How many SHEETS the OWNER has that are his own, or that are not. */
        int heldBy(Plan plan, int owner, boolean own) {
            int many = 0;
            for (int sheet = 0; sheet < SHEET_CODES; sheet++) {
                if (holders[sheet] == owner && plan.isOf(sheet, owner) == own) {
                    many++;
                }
            }
            return many;
        }

        /** The other OWNERS (bits) who have a SHEET of this one. */
        int othersWith(Plan plan, int owner) {
            int bits = 0;
            for (int sheet = 0; sheet < SHEET_CODES; sheet++) {
                int holder = holders[sheet];
                if (holder >= 0 && holder != owner && plan.isOf(sheet, owner)) {
                    bits |= 1 << holder;
                }
            }
            return bits;
        }

        /** READY of an OWNER. */
        int lastFirstOut(Plan plan, int owner) {
            int last = NONE;
            for (int sheet = 0; sheet < SHEET_CODES; sheet++) {
                if (plan.isOf(sheet, owner)) {
                    if (firstOut[sheet] == NONE) {
                        return NONE;
                    }
                    last = Math.max(last, firstOut[sheet]);
                }
            }
            return last;
        }
    }

    /** The ROW, and what is asked of its numbers alone. */
    private static final class Row {
        final int[] numbers = new int[MOST_IN_ROW];
        int many = 0;
        private final int[] ways = new int[TEN * TEN * TEN];
        private final int[] longest = new int[TEN];
        private final int[] firstPlace = new int[ROW_NUMBERS];

        int add(int v) {
            if (many < MOST_IN_ROW) {
                numbers[many] = v;
                many++;
            }
            return many;
        }

        void clear() {
            many = 0;
        }

        /** In how many ways the digits are three rows 1 .. a, 1 .. b, 1 .. c run together. */
        int waysOfThree(int a, int b, int c) {
            if (a + b + c != many) {
                return 0;
            }
            for (int i = 0; i <= a; i++) {
                for (int j = 0; j <= b; j++) {
                    for (int k = 0; k <= c; k++) {
                        ways[at(i, j, k)] = waysTo(i, j, k);
                    }
                }
            }
            return ways[at(a, b, c)];
        }

        /** The ways in which i, j and k of the three rows make up the beginning of the ROW. */
        private int waysTo(int i, int j, int k) {
            int length = i + j + k;
            if (length == 0) {
                return 1;
            }
            int digit = numbers[length - 1] % TEN;
            int sum = 0;
            if (i > 0 && digit == i) {
                sum += ways[at(i - 1, j, k)];
            }
            if (j > 0 && digit == j) {
                sum += ways[at(i, j - 1, k)];
            }
            if (k > 0 && digit == k) {
                sum += ways[at(i, j, k - 1)];
            }
            return sum;
        }

        private static int at(int i, int j, int k) {
            return (i * TEN + j) * TEN + k;
        }

        /**
         * As many rising rows are needed, and are enough, as the longest row of digits that nowhere
         * rise has: no two of those can share a rising row.
         */
        int fewestParts() {
            Arrays.fill(longest, 0);
            int most = 0;
            for (int i = 0; i < many; i++) {
                int digit = numbers[i] % TEN;
                int before = 0;
                for (int d = digit; d < TEN; d++) {
                    before = Math.max(before, longest[d]);
                }
                longest[digit] = before + 1;
                most = Math.max(most, longest[digit]);
            }
            return most;
        }

        int numbersLacking(int job, int sheets) {
            int bits = bitsUpTo(sheets);
            for (int i = 0; i < many; i++) {
                if (numbers[i] / TEN == job) {
                    bits &= ~(1 << (numbers[i] % TEN));
                }
            }
            return bits;
        }

        int fewestLaps(int places) {
            int runs = runsBySize();
            int laps = 0;
            int sortable = 1;
            while (sortable < runs && laps < MOST_IN_ROW) {
                sortable *= places;
                laps++;
            }
            return laps;
        }

        private int runsBySize() {
            Arrays.fill(firstPlace, NONE);
            for (int i = many - 1; i >= 0; i--) {
                firstPlace[numbers[i]] = i;
            }
            int runs = 0;
            int before = many;
            for (int v = 0; v < ROW_NUMBERS; v++) {
                if (firstPlace[v] != NONE) {
                    runs += firstPlace[v] < before ? 1 : 0;
                    before = firstPlace[v];
                }
            }
            return runs;
        }
    }

    private static boolean hasBit(int bits, int bit) {
        return ((bits >> bit) & 1) == 1;
    }

    /** The numbers 1 .. n as bits. */
    private static int bitsUpTo(int n) {
        return (1 << (n + 1)) - 2;
    }
}
