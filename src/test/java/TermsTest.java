import java.util.ArrayList;
import java.util.List;

/** 'Terms', sentence by sentence, at the edges that each names: the FLOOR, the MACHINE, the TAKERS. */
public final class TermsTest {
    private static final String DIGITS = "0123456789";
    private static final String SIX_JOBS = "j01,0;j12,0;j23,0;j34,0;j05,0;j16,0;";
    private static final String SIX_TAKERS = "ta00,0;to11,1;th22,2;tn33,3;td04,4;tc15,5;";
    /** 45 SHEETS at MINUTE 59: more than the DAY has MINUTES for. */
    private static final String LATE = "j09,59;j19,59;j29,59;j39,59;j09,59;";

    public static void main(String[] args) {
        owners();
        jobsAndTheirRoom();
        sheetsOfJobs();
        sentMinutes();
        sheetNumbers();
        machineAtFirst();
        takersAndTheirRoom();
        lettersAndTheirRoom();
        eachLetterAtEachPlace();
        digitsOfNumbers();
        atLeastOneStatement();
        somethingLacks();
        firstKindAheadOfSecond();
        firstStatementThatIsWrong();
        behindAllAhead();
        allOrNothing();
        minutesOfTheDay();
        sentByThen();
        first();
        shortOne();
        turn();
        over();
        againStop();
        againInTheNextMinute();
        againAtTheEndOfTheDay();
        boss();
        takersBehindTheMachine();
        takersByNumbers();
        all();
        own();
        handful();
        neat();
        deep();
        clerk();
        latestTaker();
        Check.end();
    }

    private static WhosePage floor(int kind, int stop, String letters) {
        WhosePage x = Check.floorOf(letters);
        x.machine(kind, stop);
        return x;
    }

    private static void told(String letters, int due) {
        Check.due("floor() of \"" + letters + "\"", Check.tell(new WhosePage(), letters), due);
    }

    private static void outIs(int kind, int stop, String letters, Integer... due) {
        Check.dueList("KIND " + kind + ", STOP " + stop + ", " + letters, Check.outOf(floor(kind, stop, letters)), due);
    }

    // ---- what there is

    private static void owners() {
        Check.said("OWNERS 0 .. 3");
        for (int owner = 0; owner <= 9; owner++) {
            told("j" + owner + "1,0;", owner <= 3 ? 1 : -2000);
            told("ta" + owner + "0,0;", owner <= 3 ? 1 : -2000);
        }
        WhosePage x = Check.floorOf("j01,0;j32,0;ta31,0;");
        Check.due("job(0, 0)", x.job(0, 0), 0);
        Check.due("job(1, 0)", x.job(1, 0), 3);
        Check.due("taker(0, 1)", x.taker(0, 1), 3);
        Check.due("missing(0)", x.missing(0), 1);
        Check.due("missing(3)", x.missing(3), 2);
        Check.due("missing(4)", x.missing(4), -1);
    }

    private static void jobsAndTheirRoom() {
        Check.said("JOBS 0 .. 5 as they come (6 at most)");
        WhosePage x = Check.floorOf(SIX_JOBS);
        for (int job = 0; job < 6; job++) {
            Check.due("SHEETS of " + job, x.job(job, 1), job + 1);
        }
        Check.due("job(6, 1)", x.job(6, 1), -1);
        Check.due("a seventh", Check.tell(x, "j01,0;"), -2000);
        Check.due("a seventh behind another STATEMENT", Check.tell(x, "mf0;j01,0;"), -2004);
        Check.due("no JOB, but a TAKER", Check.tell(x, "ta00,0;"), 1);
        Check.due("count(0)", x.count(0), 6);
        told(SIX_JOBS + "j01,0;", -2036);
        told(SIX_JOBS + "mf0;j01,0;", -2040);
        WhosePage y = Check.floorOf("j01,0;j01,0;");
        Check.due("five with two there", Check.tell(y, "j01,0;".repeat(5)), -2024);
        Check.due("count(0)", y.count(0), 2);
        Check.due("four with two there", Check.tell(y, "j01,0;".repeat(4)), 4);
        Check.due("count(0)", y.count(0), 6);
    }

    private static void sheetsOfJobs() {
        Check.said("SHEETS (1 .. 9; numbered from 1)");
        for (int sheets = 0; sheets <= 9; sheets++) {
            told("j0" + sheets + ",0;", sheets >= 1 ? 1 : -2000);
        }
        Check.dueList("one", Check.outOf(Check.floorOf("j01,0;")), 1);
        Check.dueList("nine", Check.outOf(Check.floorOf("j09,0;")), 1, 2, 3, 4, 5, 6, 7, 8, 9);
    }

    private static void sentMinutes() {
        Check.said("SENT at a MINUTE (0 .. 59)");
        for (int minute = 0; minute <= 99; minute++) {
            told("j01," + minute + ";", minute <= 59 ? 1 : -2000);
        }
        WhosePage x = Check.floorOf("j01,59;");
        Check.due("job(0, 2)", x.job(0, 2), 59);
        Check.due("out(0, 1)", x.out(0, 1), 59);
        Check.due("sent(0, 60)", x.sent(0, 60), -6);
        Check.due("sent(0, 0)", x.sent(0, 0), 59);
        Check.due("sent(0, 59)", x.sent(0, 59), 0);
    }

    private static void sheetNumbers() {
        Check.said("A SHEET is told as 10 times its JOB and its number");
        WhosePage x = Check.floorOf("j01,0;j02,0;j03,0;j04,0;j05,0;j09,0;");
        int k = 0;
        for (int job = 0; job < 6; job++) {
            for (int number = 1; number <= x.job(job, 1); number++) {
                Check.due("out(" + k + ", 0)", x.out(k, 0), 10 * job + number);
                Check.due("who(" + (10 * job + number) + ")", x.who(10 * job + number), -9);
                k++;
            }
        }
        Check.due("the greatest, out(23, 0)", x.out(23, 0), 59);
        Check.due("who(60)", x.who(60), -1);
    }

    private static void machineAtFirst() {
        Check.said("A MACHINE: KIND, STOP (0 .. 9): FIRST, 0 at first");
        WhosePage x = new WhosePage();
        Check.due("count(3)", x.count(3), 0);
        Check.due("count(4)", x.count(4), 0);
        Check.due("machine(5, 9)", x.machine(5, 9), 0);
        Check.due("machine(0, 0)", x.machine(0, 0), 59);
        for (int stop = 0; stop <= 9; stop++) {
            Check.due("floor()", Check.tell(x, "mb" + stop + ";"), 1);
            Check.due("count(4)", x.count(4), stop);
        }
        Check.due("machine(5, 10)", x.machine(5, 10), -6);
    }

    private static void takersAndTheirRoom() {
        Check.said("TAKERS 0 .. 5 as they come (6 at most): FIGURE (0 .. 9), a MINUTE (0 .. 99)");
        WhosePage x = Check.floorOf(SIX_TAKERS);
        for (int taker = 0; taker < 6; taker++) {
            Check.due("KIND of " + taker, x.taker(taker, 0), taker);
            Check.due("OWNER of " + taker, x.taker(taker, 1), taker % 4);
            Check.due("FIGURE of " + taker, x.taker(taker, 2), taker);
            Check.due("MINUTE of " + taker, x.taker(taker, 3), taker);
        }
        Check.due("taker(6, 0)", x.taker(6, 0), -1);
        Check.due("a seventh", Check.tell(x, "ta00,0;"), -2000);
        Check.due("no TAKER, but a JOB", Check.tell(x, "j01,0;"), 1);
        told(SIX_TAKERS + "ta00,0;", -2042);
        told(SIX_TAKERS + "mf0;ta00,0;", -2046);
        WhosePage y = Check.floorOf("ta00,0;ta00,0;");
        Check.due("five with two there", Check.tell(y, "ta00,0;".repeat(5)), -2028);
        Check.due("four with two there", Check.tell(y, "ta00,0;".repeat(4)), 4);
        Check.due("six JOBS besides", Check.tell(y, SIX_JOBS), 6);
        for (int minute = 0; minute <= 99; minute++) {
            told("ta09," + minute + ";", 1);
        }
        WhosePage z = Check.floorOf("ta00,99;ta09,0;");
        Check.due("taker(0, 3)", z.taker(0, 3), 99);
        Check.due("taker(1, 2)", z.taker(1, 2), 9);
        Check.due("comes(0, 100)", z.comes(0, 100), -6);
    }

    // ---- the FLOOR

    private static void lettersAndTheirRoom() {
        Check.said("told in letters, one by one (80 at most)");
        WhosePage x = new WhosePage();
        for (int i = 0; i < 80; i++) {
            Check.due("letter " + (i + 1), x.letter("mf0;".charAt(i % 4)), i + 1);
        }
        Check.due("letter 81", x.letter('m'), -6);
        Check.due("count(6)", x.count(6), 80);
        Check.due("floor()", x.floor(), 20);
        Check.due("count(6)", x.count(6), 0);
        Check.due("a letter then", x.letter('m'), 1);
        told(SIX_JOBS + SIX_TAKERS + "x ", -1078);
        told(SIX_JOBS + "ta00,00;" + "ta00,0;".repeat(4) + "ta00,99;", 12);
        told("mf0;".repeat(18) + "ta00,99;", 19);
        told("mf0;".repeat(18) + "ta00,999", -1079);
    }

    /** At each place of one text of each STATEMENT, each of the 256 letters. */
    private static void eachLetterAtEachPlace() {
        Check.said("the place of the first letter with which no FLOOR can go on");
        String heads = "jmt";
        letterByLetter("j12,34;", heads, DIGITS, DIGITS, ",", DIGITS, DIGITS + ";", ";");
        letterByLetter("mb9;", heads, "fstoab", DIGITS, ";");
        letterByLetter("ta12,34;", heads, "aohndc", DIGITS, DIGITS, ",", DIGITS, DIGITS + ";", ";");
    }

    private static void letterByLetter(String statement, String... canStand) {
        for (int place = 0; place < canStand.length; place++) {
            for (int c = 0; c <= 255; c++) {
                String letters = "mf0;" + statement.substring(0, place) + (char) c;
                boolean goesOn = canStand[place].indexOf(c) >= 0;
                boolean ends = goesOn && c == ';';
                int due = !goesOn ? -1004 - place : ends ? 2 : -1005 - place;
                Check.due("floor() of \"" + letters + "\"", Check.tell(new WhosePage(), letters), due);
            }
        }
    }

    private static void digitsOfNumbers() {
        Check.said("1 or 2 digits; Numbers may begin with 0");
        for (String minute : new String[] {"7", "07"}) {
            WhosePage x = Check.floorOf("j01," + minute + ";ta00," + minute + ";");
            Check.due("job(0, 2)", x.job(0, 2), 7);
            Check.due("taker(0, 3)", x.taker(0, 3), 7);
        }
        told("j01,00;", 1);
        told("j01,0;", 1);
        told("ta00,00;", 1);
        told("j01,;", -1004);
        told("ta00,;", -1005);
        told("j01,007;", -1006);
        told("ta00,007;", -1007);
        told("j001,0;", -1003);
        told("j010,0;", -1003);
        told("ta000,0;", -1004);
        told("mf;", -1002);
        told("mf00;", -1003);
        WhosePage y = Check.floorOf("j01,50;ta00,90;");
        Check.due("tens and ones", y.job(0, 2), 50);
        Check.due("tens and ones", y.taker(0, 3), 90);
    }

    private static void atLeastOneStatement() {
        Check.said("At least one STATEMENT");
        told("", -1000);
        told(";", -1000);
        told("mf0;", 1);
        WhosePage x = Check.floorOf("mf0;");
        Check.due("floor() without a letter", x.floor(), -1000);
        Check.due("floor() without a letter", x.floor(), -1000);
    }

    private static void somethingLacks() {
        Check.said("(the end, if something lacks)");
        for (String whole : new String[] {"j12,34;", "mb9;", "ta12,34;"}) {
            for (int end = 0; end < whole.length(); end++) {
                told(whole.substring(0, end), -1000 - end);
                told("mf0;" + whole.substring(0, end), end == 0 ? 1 : -1004 - end);
            }
        }
        told("mf0;".repeat(19) + "j01,", -1080);
        told("mf0;".repeat(19) + "j01", -1079);
    }

    private static void firstKindAheadOfSecond() {
        Check.said("FAULT: kind 1 ..; else kind 2");
        told("j41,0;", -2000);
        told("j41,0;x", -1006);
        told("j41,0;j", -1007);
        told("j00,60;j01,00", -1013);
        told(SIX_JOBS + "j01,0;j01,0", -1047);
        told("ta90,0;;", -1007);
    }

    private static void firstStatementThatIsWrong() {
        Check.said("kind 2 the place of the first letter of the first STATEMENT that is not as it must be");
        told("j01,60;", -2000);
        told("j01,59;j01,60;", -2007);
        told("mb9;j01,59;ta09,99;j09,60;", -2019);
        told("mb9;j01,59;ta49,99;j09,60;", -2011);
        told("j40,60;j40,60;", -2000);
        told("j10,5;", -2000);
        told("mf0;mf0;mf0;ta40,0;", -2012);
    }

    private static void behindAllAhead() {
        Check.said("behind all ahead of it in the text (no room for more)");
        told(SIX_JOBS + SIX_TAKERS, 12);
        told(SIX_TAKERS + SIX_JOBS, 12);
        told("mf0;".repeat(2) + SIX_JOBS + "j01,0;", -2044);
        WhosePage five = Check.floorOf("j01,0;".repeat(5) + "ta00,0;".repeat(5));
        Check.due("one of each more", Check.tell(five, "j01,0;ta00,0;"), 2);
        WhosePage full = Check.floorOf("j01,0;".repeat(5) + "ta00,0;".repeat(5));
        Check.due("two JOBS more", Check.tell(full, "j01,0;ta00,0;j01,0;"), -2013);
        Check.due("two TAKERS more", Check.tell(full, "ta00,0;j01,0;ta00,0;"), -2013);
        Check.due("room is left as before", Check.tell(full, "ta00,0;j01,0;"), 2);
    }

    private static void allOrNothing() {
        Check.said("Without FAULT all of it comes, with one nothing");
        WhosePage x = Check.floorOf("j12,3;mt4;th15,6;");
        List<Integer> before = Check.stateOf(x);
        for (String wrong : new String[] {"j01,0;mb9;ta00,0;x", "j01,0;mb9;ta00,0;j01,60;", "mb9;m", "ta00,0;ta40,0;"}) {
            Check.due("a FAULT of " + wrong, Check.tell(x, wrong) < -999 ? 1 : 0, 1);
            Check.dueList("all behind it", Check.stateOf(x), before.toArray(new Integer[0]));
        }
        Check.due("floor()", Check.tell(x, "ms1;j01,9;ta29,8;mb7;"), 4);
        Check.dueList("all of it", Check.stateOf(x),
                2, 3, 2, 5, 7, 0, 0, 1, 2, 3, 6, 0, 1, 9, 2, 2, 1, 5, 6, 0, 2, 9, 8, 0, 0);
    }

    // ---- the MACHINE in a DAY

    private static void minutesOfTheDay() {
        Check.said("in each of MINUTES 0 .. 99 the MACHINE puts out a SHEET");
        WhosePage x = floor(4, 1, "j09,0;j19,0;j29,0;j39,0;j09,0;j19,0;");
        Check.due("outMany()", x.outMany(), 100);
        for (int k = 0; k < 100; k++) {
            Check.due("out(" + k + ", 0)", x.out(k, 0), 10 * (k / 18) + k % 18 / 2 + 1);
            Check.due("out(" + k + ", 1)", x.out(k, 1), k);
        }
        Check.due("out(100, 0)", x.out(100, 0), -9);
        Check.due("out(100, 1)", x.out(100, 1), -9);
        Check.due("lies(99, -1)", x.lies(99, -1), 100);
        Check.due("lies(99, 0)", x.lies(99, 0), 55);
        Check.due("lies(99, 99)", x.lies(99, 99), 1);
        Check.due("lies(99, 100)", x.lies(99, 100), -9);
        WhosePage none = Check.floorOf("ta00,0;");
        Check.due("no JOB", none.outMany(), 0);
        WhosePage late = Check.floorOf(LATE);
        Check.due("to MINUTE 99", late.outMany(), 41);
        Check.due("to MINUTE 99", late.out(40, 1), 99);
        Check.due("not at MINUTE 100", late.who(46), -8);
    }

    private static void sentByThen() {
        Check.said("if some JOB that was SENT by then (that MINUTE, too) has one left");
        WhosePage x = Check.floorOf("j02,0;");
        for (int minute = 0; minute <= 59; minute++) {
            x.sent(0, minute);
            for (int kind = 0; kind <= 5; kind++) {
                x.machine(kind, 0);
                Check.due("out(0, 1)", x.out(0, 1), minute);
                Check.due("out(1, 1)", x.out(1, 1), minute + 1);
                Check.due("out(2, 1)", x.out(2, 1), -9);
            }
        }
    }

    private static void first() {
        Check.said("f FIRST: the JOB SENT first (of several the least number)");
        outIs(0, 0, "j01,2;j01,1;j01,0;", 21, 11, 1);
        outIs(0, 0, "j02,0;j02,0;j02,0;", 1, 2, 11, 12, 21, 22);
        outIs(0, 0, "j02,1;j02,0;j02,1;", 11, 12, 1, 2, 21, 22);
        outIs(0, 0, "j03,1;j01,59;j02,0;", 21, 22, 1, 2, 3, 11);
    }

    private static void shortOne() {
        Check.said("s SHORT under FIRST: that with fewest SHEETS left (of these as a FIRST)");
        outIs(1, 0, "j03,0;j02,0;j01,0;", 21, 11, 12, 1, 2, 3);
        outIs(1, 0, "j02,0;j02,0;j02,0;", 1, 2, 11, 12, 21, 22);
        outIs(1, 0, "j02,9;j12,9;j29,0;", 21, 22, 23, 24, 25, 26, 27, 28, 29, 1, 2, 11, 12);
        outIs(1, 0, "j13,1;j02,2;j24,0;", 21, 22, 23, 24, 11, 12, 1, 2, 3);
        outIs(1, 0, "j02,3;j13,2;j24,1;j01,0;", 31, 21, 22, 23, 24, 1, 2, 11, 12, 13);
    }

    private static void turn() {
        Check.said("t TURN: the next one by numbers behind that of the latest SHEET (round; the least at first)");
        outIs(2, 0, "j03,0;", 1, 2, 3);
        outIs(2, 0, "j02,5;j02,0;j02,5;", 11, 12, 21, 1, 22, 2);
        outIs(2, 0, "j01,0;j01,0;j01,0;j01,0;j01,0;j02,0;", 1, 11, 21, 31, 41, 51, 52);
        outIs(2, 0, "j02,1;j01,9;j01,9;j01,9;j01,9;j02,0;", 51, 1, 52, 2, 11, 21, 31, 41);
        outIs(2, 0, "j02,0;j02,0;", 1, 11, 2, 12);
        outIs(2, 0, "j03,1;j03,0;", 11, 1, 12, 2, 13, 3);
    }

    private static void over() {
        Check.said("o OVER: as a FIRST, but each SHEET comes beneath all on the tray; all but OVER upon it");
        outIs(3, 0, "j02,1;j02,0;j02,1;", 11, 12, 1, 2, 21, 22);
        for (int kind = 0; kind <= 5; kind++) {
            WhosePage x = floor(kind, 0, "j03,0;");
            Check.dueList("KIND " + kind + " behind MINUTE 0", Check.trayOf(x, 0), 1);
            if (kind == 3) {
                Check.dueList("KIND 3", Check.trayOf(x, 2), 1, 2, 3);
            } else {
                Check.dueList("KIND " + kind, Check.trayOf(x, 2), 3, 2, 1);
            }
        }
        WhosePage full = floor(3, 0, "j09,0;j09,0;j09,0;j09,0;j09,0;j09,0;");
        Check.due("lies(99, -1)", full.lies(99, -1), 54);
        Check.due("lies(99, 53)", full.lies(99, 53), 59);
        Check.due("lies(99, 0)", full.lies(99, 0), 1);
    }

    private static void againStop() {
        Check.said("a AGAIN: if STOP is above 0, behind each STOP SHEETS put out the latest one comes once more");
        outIs(4, 0, "j03,0;", 1, 2, 3);
        outIs(4, 1, "j03,0;", 1, 1, 2, 2, 3, 3);
        outIs(4, 2, "j04,0;", 1, 2, 2, 3, 4, 4);
        outIs(4, 2, "j05,0;", 1, 2, 2, 3, 4, 4, 5);
        outIs(4, 9, "j08,0;", 1, 2, 3, 4, 5, 6, 7, 8);
        outIs(4, 9, "j09,0;", 1, 2, 3, 4, 5, 6, 7, 8, 9, 9);
        outIs(4, 9, "j08,0;j02,0;", 1, 2, 3, 4, 5, 6, 7, 8, 11, 11, 12);
        outIs(4, 1, "j02,1;j01,0;j01,1;", 11, 11, 1, 1, 2, 2, 21, 21);
        Check.said("a AGAIN: upon the tray");
        Check.dueList("tray", Check.trayOf(floor(4, 1, "j02,0;"), 3), 2, 2, 1, 1);
        for (int kind : new int[] {0, 1, 2, 3, 5}) {
            Check.due("KIND " + kind + " without it", floor(kind, 1, "j03,0;j12,0;").outMany(), 5);
        }
    }

    private static void againInTheNextMinute() {
        Check.said("(in the next MINUTE; that one does not count for STOP)");
        WhosePage x = floor(4, 1, "j01,0;j11,5;j21,1;");
        Check.dueList("OUT", Check.outOf(x), 1, 1, 21, 21, 11, 11);
        int[] minutes = {0, 1, 2, 3, 5, 6};
        for (int k = 0; k < minutes.length; k++) {
            Check.due("out(" + k + ", 1)", x.out(k, 1), minutes[k]);
        }
        WhosePage pause = floor(4, 3, "j02,0;j12,9;");
        Check.dueList("counted on behind a pause", Check.outOf(pause), 1, 2, 11, 11, 12);
        Check.due("out(3, 1)", pause.out(3, 1), 10);
        WhosePage taken = floor(4, 1, "j01,0;ta20,0;");
        Check.dueList("though it was taken", Check.trayOf(taken, 1), 1);
    }

    private static void againAtTheEndOfTheDay() {
        Check.said("in each of MINUTES 0 .. 99 (AGAIN: in the next MINUTE)");
        WhosePage cut = floor(4, 5, LATE);
        Check.due("no next MINUTE, outMany()", cut.outMany(), 41);
        Check.due("out(40, 0)", cut.out(40, 0), 38);
        Check.due("out(39, 0)", cut.out(39, 0), 37);
        WhosePage whole = floor(4, 5, LATE);
        whole.sent(0, 58);
        Check.due("in MINUTE 99, outMany()", whole.outMany(), 42);
        Check.due("out(41, 0)", whole.out(41, 0), 38);
        Check.due("out(41, 1)", whole.out(41, 1), 99);
        Check.due("out(40, 0)", whole.out(40, 0), 38);
    }

    private static void boss() {
        Check.said("b BOSS under SHORT: that of the least OWNER (of these as a SHORT)");
        outIs(5, 0, "j31,0;j21,0;j11,0;j01,0;", 31, 21, 11, 1);
        outIs(5, 0, "j19,0;j31,0;j02,3;", 1, 2, 3, 21, 22, 4, 5, 6, 7, 8, 9, 11);
        outIs(5, 0, "j23,0;j22,0;j21,0;", 21, 11, 12, 1, 2, 3);
        outIs(5, 0, "j22,0;j22,0;", 1, 2, 11, 12);
        outIs(5, 0, "j22,1;j22,1;j13,0;", 21, 22, 23, 1, 2, 11, 12);
        outIs(5, 0, "j22,2;j22,1;j13,0;", 21, 22, 23, 11, 12, 1, 2);
    }

    // ---- the TAKERS

    private static void takersBehindTheMachine() {
        Check.said("Then TAKERS of that MINUTE take of the tray");
        WhosePage x = Check.floorOf("j02,0;ta10,0;");
        Check.due("MINUTE 0, who(1)", x.who(1), 1);
        Check.due("MINUTE 0, who(2)", x.who(2), -9);
        Check.due("lies(0, -1)", x.lies(0, -1), 0);
        x.comes(0, 1);
        Check.due("MINUTE 1, held(1, 1)", x.held(1, 1), 2);
        Check.due("lies(0, -1)", x.lies(0, -1), 1);
        Check.due("lies(1, -1)", x.lies(1, -1), 0);
        x.comes(0, 99);
        Check.due("MINUTE 99, held(1, 1)", x.held(1, 1), 2);
        Check.due("lies(98, -1)", x.lies(98, -1), 2);
        Check.due("lies(99, -1)", x.lies(99, -1), 0);
        x.sent(0, 1);
        x.comes(0, 0);
        Check.due("an empty tray, held(1, 1)", x.held(1, 1), 0);
        WhosePage late = Check.floorOf(LATE + "to09,99;");
        Check.due("what comes in MINUTE 99, who(45)", late.who(45), 0);
    }

    private static void takersByNumbers() {
        Check.said("by numbers, take of the tray");
        WhosePage x = Check.floorOf("j06,0;th01,5;th11,5;th21,5;th31,5;th01,5;th11,5;");
        int[] due = {1, 0, 3, 2, 1, 0};
        for (int number = 1; number <= 6; number++) {
            Check.due("who(" + number + ")", x.who(number), due[number - 1]);
        }
        x.comes(0, 6);
        Check.due("who(6)", x.who(6), 1);
        Check.due("the one that comes late, who(1)", x.who(1), 0);
    }

    private static void all() {
        Check.said("a ALL: everything");
        WhosePage x = Check.floorOf("j12,0;j23,0;ta00,4;ta30,4;");
        Check.due("held(0, 1)", x.held(0, 1), 5);
        Check.due("nothing is left, held(3, 1)", x.held(3, 1), 0);
        Check.due("lies(4, -1)", x.lies(4, -1), 0);
        WhosePage full = floor(4, 1, "j09,0;j19,0;j29,0;j39,0;j09,0;j19,0;ta00,99;");
        Check.due("100 lie, lies(98, -1)", full.lies(98, -1), 99);
        Check.due("lies(99, -1)", full.lies(99, -1), 0);
    }

    private static void own() {
        Check.said("o OWN: SHEETS of his JOBS");
        WhosePage x = Check.floorOf("j02,0;j12,0;j02,0;to09,5;to20,5;");
        Check.dueList("tray", Check.trayOf(x, 5), 12, 11);
        Check.due("held(0, 0)", x.held(0, 0), 4);
        Check.due("he has no JOBS, held(2, 1)", x.held(2, 1), 0);
        WhosePage last = Check.floorOf("j01,0;j01,0;j01,0;j01,0;j01,0;j31,0;to30,5;");
        Check.dueList("of the sixth", Check.trayOf(last, 5), 41, 31, 21, 11, 1);
    }

    private static void handful() {
        Check.said("h HANDFUL: FIGURE from the top");
        for (int figure = 0; figure <= 9; figure++) {
            WhosePage x = Check.floorOf("j09,0;th1" + figure + ",6;");
            Check.due("lies(6, -1), FIGURE " + figure, x.lies(6, -1), Math.max(0, 7 - figure));
            Check.due("held(1, 1)", x.held(1, 1), Math.min(7, figure));
            Check.due("the top, who(7)", x.who(7), figure > 0 ? 1 : -9);
            Check.due("the bottom, who(1)", x.who(1), figure >= 7 ? 1 : -9);
        }
        WhosePage over = floor(3, 0, "j03,0;th11,2;");
        Check.dueList("OVER: the top is the first", Check.trayOf(over, 2), 2, 3);
    }

    private static void neat() {
        Check.said("n NEAT: as an OWN one, if one of his JOBS lies there whole (each number at least once), else nothing");
        WhosePage x = Check.floorOf("j02,0;j13,0;j02,0;tn00,0;");
        int[] left = {1, 0, 1, 2, 3, 3, 3};
        for (int minute = 0; minute < left.length; minute++) {
            x.comes(0, minute);
            Check.due("MINUTE " + minute, x.lies(minute, -1), left[minute]);
        }
        WhosePage single = Check.floorOf("j01,0;tn00,0;");
        Check.due("one SHEET is whole", single.who(1), 0);
        WhosePage nine = Check.floorOf("j09,0;tn00,7;tn00,8;");
        Check.due("eight are not", nine.lies(7, -1), 8);
        Check.due("nine are", nine.lies(8, -1), 0);
        WhosePage others = Check.floorOf("j12,0;j02,0;tn00,2;");
        Check.due("another one's is whole", others.lies(2, -1), 3);
        WhosePage twice = floor(4, 1, "j02,0;tn00,1;tn00,2;");
        Check.dueList("a number twice, another never", Check.trayOf(twice, 1), 1, 1);
        Check.dueList("each number, one twice", Check.trayOf(twice, 2));
        WhosePage part = Check.floorOf("j02,0;ta10,0;j02,0;tn00,3;");
        Check.dueList("part of another JOB of his, too", Check.trayOf(part, 3));
        Check.due("who(2)", part.who(2), 0);
        WhosePage torn = Check.floorOf("j02,0;ta10,0;tn00,1;");
        Check.due("what was taken lies no more, who(2)", torn.who(2), -9);
    }

    private static void deep() {
        Check.said("d DEEP: FIGURE from the bottom");
        for (int figure = 0; figure <= 9; figure++) {
            WhosePage x = Check.floorOf("j09,0;td1" + figure + ",6;");
            Check.due("lies(6, -1), FIGURE " + figure, x.lies(6, -1), Math.max(0, 7 - figure));
            Check.due("held(1, 1)", x.held(1, 1), Math.min(7, figure));
            Check.due("the top, who(7)", x.who(7), figure >= 7 ? 1 : -9);
            Check.due("the bottom, who(1)", x.who(1), figure > 0 ? 1 : -9);
        }
        WhosePage over = floor(3, 0, "j03,0;td11,2;");
        Check.dueList("OVER: the bottom is the latest", Check.trayOf(over, 2), 1, 2);
    }

    private static void clerk() {
        Check.said("c CLERK: as an OWN one, but only SHEETS of those of his JOBS that lie there whole");
        WhosePage x = Check.floorOf("j02,0;j13,0;j02,0;tc00,0;");
        int[] left = {1, 0, 1, 2, 3, 4, 3};
        for (int minute = 0; minute < left.length; minute++) {
            x.comes(0, minute);
            Check.due("MINUTE " + minute, x.lies(minute, -1), left[minute]);
        }
        WhosePage twice = floor(4, 1, "j02,0;tc00,1;tc00,3;");
        Check.dueList("a number twice, another never", Check.trayOf(twice, 1), 1, 1);
        Check.dueList("both of a number", Check.trayOf(twice, 3));
        WhosePage others = Check.floorOf("j12,0;j01,0;tc00,2;");
        Check.dueList("another one's stays", Check.trayOf(others, 2), 2, 1);
        WhosePage sixth = Check.floorOf("j02,9;j02,9;j02,9;j02,9;j02,9;j39,0;tc30,8;");
        Check.due("nine of the sixth", sixth.held(3, 0), 9);
    }

    private static void latestTaker() {
        Check.said("Who has taken a SHEET (number of a JOB) latest has it");
        WhosePage x = floor(4, 1, "j01,0;ta10,0;ta20,1;");
        Check.due("who(1)", x.who(1), 2);
        Check.due("held(1, 1)", x.held(1, 1), 0);
        Check.due("held(2, 1)", x.held(2, 1), 1);
        x.comes(0, 1);
        x.comes(1, 0);
        Check.due("the other way, who(1)", x.who(1), 1);
        x.comes(0, 9);
        Check.due("the copy taken late, who(1)", x.who(1), 1);
        WhosePage lying = floor(4, 1, "j01,0;ta10,0;");
        Check.due("a copy of it lies, who(1)", lying.who(1), 1);
        Check.due("lies(99, 0)", lying.lies(99, 0), 1);
        List<Integer> both = new ArrayList<>();
        WhosePage same = floor(4, 1, "j01,0;th11,1;th21,1;");
        both.add(same.held(1, 1));
        both.add(same.held(2, 1));
        Check.dueList("in one MINUTE, by numbers", both, 0, 1);
    }
}
