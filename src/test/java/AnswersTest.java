import java.util.Arrays;
import java.util.List;

/** Part II of the document and what stands behind it, sentence by sentence, at the edges that each names. */
public final class AnswersTest {
    private static final int MOST_IN_ROW = 20;
    /** 45 SHEETS at MINUTE 59: more than the DAY has MINUTES for. */
    private static final String LATE = "j09,59;j19,59;j29,59;j39,59;j09,59;";

    public static void main(String[] args) {
        out();
        lies();
        has();
        who();
        missing();
        ask();
        ready();
        mixed();
        byKinds();
        send();
        rowAndItsRoom();
        two();
        three();
        parts();
        lacks();
        laps();
        lapsOfRuns();
        waits();
        vain();
        seen();
        seenFullRow();
        judged();
        lotsDays();
        lotsDraws();
        image();
        on();
        count();
        callsOfOneObject();
        Check.end();
    }

    private static WhosePage floor(int kind, int stop, String letters) {
        WhosePage x = Check.floorOf(letters);
        x.machine(kind, stop);
        return x;
    }

    private static WhosePage withRow(String letters, int... numbers) {
        WhosePage x = Check.floorOf(letters);
        Check.tellRow(x, numbers);
        return x;
    }

    private static int[] downFrom(int first, int many) {
        int[] numbers = new int[many];
        for (int i = 0; i < many; i++) {
            numbers[i] = first - i;
        }
        return numbers;
    }

    // ---- the DAY

    private static void out() {
        Check.said("OUT: the k-th SHEET (0 first; what 0; -9 none such), its MINUTE (1; -9)");
        WhosePage none = new WhosePage();
        Check.due("nothing OUT, out(0, 0)", none.out(0, 0), -9);
        Check.due("nothing OUT, out(0, 1)", none.out(0, 1), -9);
        Check.due("nothing OUT, outMany()", none.outMany(), 0);
        WhosePage x = Check.floorOf("j02,59;");
        Check.due("out(0, 0)", x.out(0, 0), 1);
        Check.due("out(1, 0)", x.out(1, 0), 2);
        Check.due("out(1, 1)", x.out(1, 1), 60);
        Check.due("out(2, 0)", x.out(2, 0), -9);
        Check.due("out(2, 1)", x.out(2, 1), -9);
        Check.due("out(99, 0)", x.out(99, 0), -9);
        Check.due("out(100, 1)", x.out(100, 1), -9);
        Check.due("out(greatest, 0)", x.out(Integer.MAX_VALUE, 0), -9);
        Check.due("out(greatest, 1)", x.out(Integer.MAX_VALUE, 1), -9);
    }

    private static void lies() {
        Check.said("LIES behind a MINUTE: how many (i -1), the i-th from the top (0 first; -9 none such)");
        WhosePage none = new WhosePage();
        for (int minute : new int[] {0, 99}) {
            Check.due("nothing, lies(" + minute + ", -1)", none.lies(minute, -1), 0);
            Check.due("nothing, lies(" + minute + ", 0)", none.lies(minute, 0), -9);
            Check.due("nothing, lies(.., greatest)", none.lies(minute, Integer.MAX_VALUE), -9);
        }
        WhosePage x = Check.floorOf("j03,0;j11,59;");
        Check.due("lies(0, -1)", x.lies(0, -1), 1);
        Check.due("lies(0, 0)", x.lies(0, 0), 1);
        Check.due("lies(0, 1)", x.lies(0, 1), -9);
        Check.due("lies(58, -1)", x.lies(58, -1), 3);
        Check.due("lies(59, -1)", x.lies(59, -1), 4);
        Check.due("lies(99, 0)", x.lies(99, 0), 11);
        Check.due("lies(99, 3)", x.lies(99, 3), 1);
        Check.due("lies(99, 4)", x.lies(99, 4), -9);
        WhosePage taken = Check.floorOf("j03,0;ta00,50;");
        Check.due("lies(49, 2)", taken.lies(49, 2), 1);
        Check.due("lies(50, 0)", taken.lies(50, 0), -9);
        Check.due("lies(50, -1)", taken.lies(50, -1), 0);
    }

    private static void has() {
        Check.said("HAS of an OWNER at the end: how many different SHEETS of his own, of others");
        WhosePage none = new WhosePage();
        for (int owner = 0; owner <= 3; owner++) {
            Check.due("nothing, held(" + owner + ", 0)", none.held(owner, 0), 0);
            Check.due("nothing, held(" + owner + ", 1)", none.held(owner, 1), 0);
        }
        WhosePage x = floor(4, 1, "j03,0;j12,0;j31,40;ta09,59;");
        Check.due("two of each, held(0, 0)", x.held(0, 0), 3);
        Check.due("two of each, held(0, 1)", x.held(0, 1), 3);
        x.comes(0, 39);
        Check.due("held(0, 1)", x.held(0, 1), 2);
        Check.due("held(3, 0)", x.held(3, 0), 0);
        WhosePage all = Check.floorOf("j09,0;j09,0;j09,0;j39,0;j39,0;j39,0;ta30,99;");
        Check.due("held(3, 0)", all.held(3, 0), 27);
        Check.due("held(3, 1)", all.held(3, 1), 27);
    }

    private static void who() {
        Check.said("WHO has a SHEET: an OWNER; -9 it lies; -8 it never came out");
        WhosePage x = Check.floorOf(LATE + "ta30,98;");
        Check.due("who(44)", x.who(44), 3);
        Check.due("who(45)", x.who(45), -9);
        Check.due("who(46)", x.who(46), -8);
        Check.due("who(49)", x.who(49), -8);
        x.comes(0, 99);
        Check.due("who(45)", x.who(45), 3);
        x.sent(4, 0);
        Check.due("who(49)", x.who(49), 3);
        Check.due("who(36)", x.who(36), 3);
        WhosePage zero = Check.floorOf("j11,0;ta00,0;");
        Check.due("an OWNER 0", zero.who(1), 0);
    }

    private static void missing() {
        Check.said("MISSING of an OWNER: how many different SHEETS of his he has not");
        Check.due("nothing", new WhosePage().missing(0), 0);
        WhosePage x = floor(4, 1, "j03,0;j12,0;j02,59;to00,1;ta10,9;");
        Check.due("it lies, another has it, missing(0)", x.missing(0), 4);
        Check.due("missing(1)", x.missing(1), 0);
        Check.due("he has no JOBS, missing(3)", x.missing(3), 0);
        x.comes(1, 0);
        Check.due("missing(0)", x.missing(0), 4);
        Check.due("missing(1)", x.missing(1), 2);
        WhosePage late = Check.floorOf(LATE + "ta00,99;");
        Check.due("never came out, missing(0)", late.missing(0), 4);
        WhosePage all = Check.floorOf("j09,0;j09,0;j09,0;j09,0;j09,0;j09,0;");
        Check.due("all, missing(0)", all.missing(0), 54);
    }

    private static void ask() {
        Check.said("ASK: the others (bits) who have one of his");
        Check.due("nothing", new WhosePage().ask(0), 0);
        for (int taker = 0; taker <= 3; taker++) {
            for (int owner = 0; owner <= 3; owner++) {
                WhosePage x = Check.floorOf("j" + owner + "2,0;ta" + taker + "0,9;");
                Check.due("ask(" + owner + ") of " + taker, x.ask(owner), taker == owner ? 0 : 1 << taker);
                Check.due("he has no JOBS", x.ask((owner + 1) % 4), 0);
            }
        }
        Check.due("all", Check.floorOf("j04,0;th01,0;th11,1;th21,2;th31,3;").ask(0), 14);
        Check.due("it lies", Check.floorOf("j04,0;th11,9;").ask(0), 2);
        WhosePage late = floor(4, 1, "j01,0;ta10,0;to00,1;");
        Check.due("who took it first has it no more", late.ask(0), 0);
    }

    private static void ready() {
        Check.said("READY: the MINUTE in which the last of his SHEETS first comes out; -9 not by MINUTE 99, he has none");
        Check.due("he has none", new WhosePage().ready(0), -9);
        WhosePage x = floor(4, 2, "j02,0;j12,0;");
        Check.due("first, not once more, ready(0)", x.ready(0), 1);
        Check.due("ready(1)", x.ready(1), 4);
        Check.due("he has none, ready(2)", x.ready(2), -9);
        x.machine(0, 0);
        Check.due("MINUTE 0", Check.floorOf("j31,0;").ready(3), 0);
        WhosePage late = Check.floorOf("j09,59;j09,59;j09,59;j09,59;j15,59;");
        Check.due("in MINUTE 99", late.ready(1), 99);
        Check.due("ready(0)", late.ready(0), 94);
        Check.due("a JOB more", Check.tell(late, "j11,59;"), 1);
        Check.due("one of his not by MINUTE 99", late.ready(1), -9);
        Check.due("ready(0)", late.ready(0), 94);
        WhosePage taken = Check.floorOf("j02,3;ta10,3;");
        Check.due("taken or not", taken.ready(0), 4);
    }

    private static void mixed() {
        Check.said("MIXED: how often in OUT one is of another JOB than the one ahead of it");
        Check.due("nothing OUT", new WhosePage().mixed(), 0);
        Check.due("one SHEET", Check.floorOf("j01,0;").mixed(), 0);
        Check.due("one JOB", Check.floorOf("j09,0;").mixed(), 0);
        Check.due("two JOBS of one OWNER", Check.floorOf("j01,0;j01,59;").mixed(), 1);
        Check.due("six by turns", floor(2, 0, "j09,0;j09,0;j09,0;j09,0;j09,0;j09,0;").mixed(), 53);
        WhosePage late = floor(2, 0, LATE);
        Check.due("till MINUTE 99", late.mixed(), 40);
        late.machine(4, 1);
        Check.due("the same once more is no other, till MINUTE 99", late.mixed(), 2);
    }

    private static void byKinds() {
        Check.said("BY KINDS of MACHINES (STOP as it is): that with which least is MIXED, of several the first");
        Check.due("nothing OUT", new WhosePage().byKind(), 0);
        for (int kind = 0; kind <= 5; kind++) {
            WhosePage x = floor(kind, 3, "j02,0;j12,0;");
            Check.due("the first, under KIND " + kind, x.byKind(), 0);
            Check.due("the KIND stays", x.count(3), kind);
            Check.due("STOP stays", x.count(4), 3);
        }
        WhosePage ahead = Check.floorOf("j02,0;j05,1;j02,2;");
        Check.due("mixed() of a FIRST", ahead.mixed(), 2);
        WhosePage boss = Check.floorOf("j31,59;j09,59;j09,59;j09,59;j09,59;j09,59;");
        Check.due("the last", boss.byKind(), 5);
        boss.machine(0, 1);
        Check.due("by its STOP", boss.byKind(), 4);
        boss.machine(5, 9);
        Check.due("two alike", boss.byKind(), 4);
    }

    private static void send() {
        Check.said("SEND of a JOB: the MINUTE (0 .. 59) at which, SENT then, least is MIXED, of several the first; that number");
        WhosePage alone = Check.floorOf("j05,30;");
        Check.due("all alike, send(0, 0)", alone.send(0, 0), 0);
        Check.due("send(0, 1)", alone.send(0, 1), 0);
        Check.due("SENT stays", alone.job(0, 2), 30);
        WhosePage last = Check.floorOf("j09,59;j09,59;j09,59;j09,59;j09,59;j11,7;");
        Check.due("at 59 alone, send(5, 0)", last.send(5, 0), 59);
        Check.due("send(5, 1)", last.send(5, 1), 4);
        Check.due("there is no MINUTE 60", Check.floorOf("j11,7;" + "j09,59;".repeat(5)).send(0, 0), 0);
        WhosePage turns = floor(2, 0, "j09,0;j13,30;");
        Check.due("of several the first, send(1, 0)", turns.send(1, 0), 9);
        Check.due("send(1, 1)", turns.send(1, 1), 1);
        turns.sent(1, 0);
        Check.due("mixed() as SENT", turns.mixed(), 6);
        Check.due("send(1, 0)", turns.send(1, 0), 9);
    }

    // ---- the ROW

    private static void rowAndItsRoom() {
        Check.said("A ROW of SHEETS (0 .. 99; 20 at most) is told");
        WhosePage x = new WhosePage();
        Check.due("count(5)", x.count(5), 0);
        Check.due("row(0)", x.row(0), 1);
        Check.due("row(99)", x.row(99), 2);
        Check.due("row(-1)", x.row(-1), -4);
        Check.due("row(100)", x.row(100), -6);
        for (int i = 3; i <= MOST_IN_ROW; i++) {
            Check.due("row " + i, x.row(99), i);
        }
        Check.due("row 21", x.row(0), -6);
        Check.due("count(5)", x.count(5), MOST_IN_ROW);
        x.judge();
        Check.due("a new ROW", x.row(99), 1);
    }

    private static void two() {
        Check.said("TWO: in how many ways it is run together of two told JOBS, each from 1 up in order, all of both");
        Check.due("an empty ROW", withRow("j01,0;j01,0;").two(0, 1), 0);
        Check.due("one each", withRow("j01,0;j01,0;", 1, 1).two(0, 1), 2);
        Check.due("one lacks", withRow("j01,0;j01,0;", 1).two(0, 1), 0);
        Check.due("one too many", withRow("j01,0;j01,0;", 1, 1, 1).two(0, 1), 0);
        Check.due("not from 1 up", withRow("j01,0;j02,0;", 1, 2, 1).two(0, 1), 1);
        Check.due("not in order", withRow("j01,0;j02,0;", 2, 1, 1).two(0, 1), 0);
        Check.due("not all of both", withRow("j01,0;j03,0;", 1, 1, 2).two(0, 1), 0);
        Check.due("a digit 0", withRow("j01,0;j02,0;", 1, 1, 0).two(0, 1), 0);
        Check.due("18, the most of two", withRow("j09,0;j09,0;",
                1, 1, 2, 2, 3, 3, 4, 4, 5, 5, 6, 6, 7, 7, 8, 8, 9, 9).two(0, 1), 512);
        Check.due("20 in the ROW", withRow("j09,0;j09,0;",
                1, 1, 2, 2, 3, 3, 4, 4, 5, 5, 6, 6, 7, 7, 8, 8, 9, 9, 1, 1).two(0, 1), 0);
        Check.said("(by its digits alone: whose each is may be so or so)");
        Check.due("tens of no JOB", withRow("j01,0;j02,0;", 91, 61, 72).two(0, 1), 2);
        Check.due("tens the other way", withRow("j01,0;j02,0;", 1, 11, 2).two(0, 1), 2);
        WhosePage six = withRow("j01,0;j01,0;j01,0;j01,0;j02,0;j03,0;", 1, 2, 3, 1, 2);
        Check.due("the last two JOBS", six.two(4, 5), 1);
        Check.due("the other way", six.two(5, 4), 1);
        Check.said("(the ROW stays)");
        Check.due("count(5)", six.count(5), 5);
    }

    private static void three() {
        Check.said("THREE likewise");
        Check.due("an empty ROW", withRow("j01,0;j01,0;j01,0;").three(0, 1, 2), 0);
        Check.due("one each", withRow("j01,0;j01,0;j01,0;", 1, 1, 1).three(0, 1, 2), 6);
        Check.due("one lacks", withRow("j01,0;j01,0;j01,0;", 1, 1).three(0, 1, 2), 0);
        Check.due("one too many", withRow("j01,0;j01,0;j01,0;", 1, 1, 1, 1).three(0, 1, 2), 0);
        Check.due("a digit 0", withRow("j01,0;j01,0;j01,0;", 0, 1, 1).three(0, 1, 2), 0);
        Check.due("not in order", withRow("j01,0;j01,0;j02,0;", 2, 1, 1, 1).three(0, 1, 2), 0);
        Check.due("20 in the ROW", withRow("j09,0;j09,0;j02,0;",
                1, 1, 1, 2, 2, 2, 3, 3, 4, 4, 5, 5, 6, 6, 7, 7, 8, 8, 9, 9).three(0, 1, 2), 36 * 128);
        Check.due("21 SHEETS can't be in a ROW", withRow("j09,0;j09,0;j03,0;",
                1, 1, 1, 2, 2, 2, 3, 3, 3, 4, 4, 5, 5, 6, 6, 7, 7, 8, 8, 9).three(0, 1, 2), 0);
        Check.due("tens of no JOB", withRow("j01,0;j01,0;j02,0;", 91, 61, 71, 82).three(0, 1, 2), 6);
        WhosePage six = withRow("j01,0;j01,0;j01,0;j01,0;j02,0;j03,0;", 1, 2, 3, 1, 1, 2);
        Check.due("the last three JOBS", six.three(3, 4, 5), 2);
        Check.due("another order", six.three(5, 3, 4), 2);
        Check.due("JOBS as long", six.three(0, 4, 5), 2);
        Check.said("(the ROW stays)");
        Check.due("count(5)", six.count(5), 6);
        Check.said("THREE likewise: of the ROW as it is, not of one before");
        WhosePage anew = withRow("j01,0;j01,0;j09,0;", 1, 2, 3, 4, 5, 6, 7, 8, 9, 1, 1);
        Check.due("the first ROW", anew.three(0, 1, 2), 2);
        anew.judge();
        Check.tellRow(anew, 0, 1);
        Check.due("a digit 0 then", anew.two(0, 1), 0);
        Check.due("one too few", anew.three(0, 1, 2), 0);
    }

    private static void parts() {
        Check.said("PARTS: the fewest rows in which it can be parted so that in each the digits rise (none twice)");
        Check.due("an empty ROW", new WhosePage().parts(), 0);
        Check.due("one", withRow("mf0;", 99).parts(), 1);
        Check.due("all ten digits rising", withRow("mf0;", 90, 81, 72, 63, 54, 45, 36, 27, 18, 9).parts(), 1);
        Check.due("all ten digits falling", withRow("mf0;", downFrom(9, 10)).parts(), 10);
        Check.due("none twice", withRow("mf0;", 0, 10).parts(), 2);
        Check.due("none twice", withRow("mf0;", 1, 5, 15, 25).parts(), 3);
        int[] alike = new int[MOST_IN_ROW];
        Arrays.fill(alike, 99);
        Check.due("20 alike", withRow("mf0;", alike).parts(), 20);
        Arrays.fill(alike, 0);
        Check.due("20 alike", withRow("mf0;", alike).parts(), 20);
        Check.due("20, falling twice", withRow("mf0;", downFrom(59, 20)).parts(), 11);
        Check.due("20, rising twice", withRow("mf0;",
                0, 1, 2, 3, 4, 5, 6, 7, 8, 9, 10, 11, 12, 13, 14, 15, 16, 17, 18, 19).parts(), 2);
        WhosePage x = withRow("mf0;", 5, 1, 6, 2);
        Check.due("not by neighbours", x.parts(), 2);
        Check.said("(the ROW stays)");
        Check.due("count(5)", x.count(5), 4);
    }

    private static void lacks() {
        Check.said("LACKS of a JOB: its numbers (bits from 1 on) that are not in the ROW");
        Check.due("an empty ROW, one SHEET", Check.floorOf("j01,0;").lacks(0), 2);
        Check.due("an empty ROW, nine SHEETS", Check.floorOf("j09,0;").lacks(0), 1022);
        WhosePage x = withRow("j09,0;j12,0;", 1, 9, 0, 10, 13, 19);
        Check.due("lacks(0)", x.lacks(0), 1022 - 2 - 512);
        Check.due("other tens, lacks(1)", x.lacks(1), 6);
        Check.tellRow(x, 11, 12, 12);
        Check.due("none lacks", x.lacks(1), 0);
        WhosePage six = withRow("j01,0;j01,0;j01,0;j01,0;j01,0;j09,0;", 51, 59, 61, 99);
        Check.due("the sixth", six.lacks(5), 1022 - 2 - 512);
        WhosePage full = withRow("j09,0;j09,0;", 1, 2, 3, 4, 5, 6, 7, 8, 9, 11, 12, 13, 14, 15, 16, 17, 18, 0, 10, 19);
        Check.due("20 in the ROW, lacks(0)", full.lacks(0), 0);
        Check.due("20 in the ROW, lacks(1)", full.lacks(1), 0);
        Check.said("(bits 1 .. 9; the ROW stays)");
        Check.due("count(5)", full.count(5), 20);
    }

    private static void laps() {
        Check.said("LAPS: the least k so that places to k are no fewer than RUNS; 0 laps for no RUN or one");
        for (int places = 2; places <= 9; places++) {
            Check.due("no RUN on " + places, new WhosePage().laps(places), 0);
            Check.due("one RUN on " + places, withRow("mf0;", 0, 50, 99).laps(places), 0);
            for (int runs = 2; runs <= MOST_IN_ROW; runs++) {
                int k = runs <= places ? 1 : runs <= places * places ? 2
                        : runs <= places * places * places ? 3 : runs <= places * places * places * places ? 4 : 5;
                Check.due(runs + " RUNS on " + places, withRow("mf0;", downFrom(99, runs)).laps(places), k);
            }
        }
    }

    private static void lapsOfRuns() {
        Check.said("RUNS: the unlike numbers of the ROW (each where it comes first) are gone through by size");
        Check.due("one number 20 times", withRow("mf0;",
                7, 7, 7, 7, 7, 7, 7, 7, 7, 7, 7, 7, 7, 7, 7, 7, 7, 7, 7, 7).laps(2), 0);
        Check.due("where it comes first", withRow("mf0;", 1, 2, 1).laps(2), 0);
        Check.due("where it comes first", withRow("mf0;", 2, 1, 2).laps(2), 1);
        Check.due("by size, not by digits", withRow("mf0;", 9, 10, 99).laps(2), 0);
        Check.due("by size, not by digits", withRow("mf0;", 10, 9).laps(2), 1);
        Check.said("each that comes ahead of the one just gone through begins a RUN anew");
        Check.due("ahead of the one just gone through alone: 20, 10 | 40, 30", withRow("mf0;", 20, 10, 40, 30).laps(2), 2);
        Check.due("two RUNS: 10, 30 | 0, 20", withRow("mf0;", 20, 30, 0, 10).laps(2), 1);
        Check.due("0 and 99", withRow("mf0;", 99, 0).laps(9), 1);
        WhosePage x = withRow("mf0;", 3, 2, 1);
        Check.due("three RUNS", x.laps(2), 2);
        Check.said("(the ROW stays)");
        Check.due("count(5)", x.count(5), 3);
    }

    // ---- waiting

    private static void waits() {
        Check.said("WAIT: MINUTES till READY (0, if it is); -9 never READY");
        WhosePage x = Check.floorOf("j09,59;j09,59;j09,59;j09,59;j15,59;j21,0;");
        Check.due("READY in MINUTE 99", x.ready(1), 99);
        Check.due("waits(1, 0, 0)", x.waits(1, 0, 0), 99);
        Check.due("waits(1, 0, 30)", x.waits(1, 0, 30), 69);
        Check.due("waits(1, 68, 30)", x.waits(1, 68, 30), 1);
        Check.due("waits(1, 69, 30)", x.waits(1, 69, 30), 0);
        Check.due("waits(1, 98, 0)", x.waits(1, 98, 0), 1);
        Check.due("waits(1, 99, 0)", x.waits(1, 99, 0), 0);
        Check.due("waits(1, 99, 30)", x.waits(1, 99, 30), 0);
        Check.due("READY in MINUTE 0", x.waits(2, 0, 0), 0);
        Check.due("never, waits(3, 0, 0)", x.waits(3, 0, 0), -9);
        Check.due("never, waits(3, 99, 30)", x.waits(3, 99, 30), -9);
        Check.due("not by MINUTE 99", Check.floorOf(LATE).waits(0, 99, 30), -9);
    }

    private static void vain() {
        Check.said("VAIN: goes in MINUTE m and each n MINUTES again till READY: how often he comes in vain; -9 likewise");
        WhosePage x = Check.floorOf("j09,59;j09,59;j09,59;j09,59;j15,59;j21,0;");
        Check.due("vain(1, 0, 1)", x.vain(1, 0, 1), 99);
        Check.due("vain(1, 98, 1)", x.vain(1, 98, 1), 1);
        Check.due("vain(1, 99, 1)", x.vain(1, 99, 1), 0);
        Check.due("it is READY as he comes, vain(1, 99, 2)", x.vain(1, 99, 2), 0);
        Check.due("it is READY as he comes, vain(1, 99, 30)", x.vain(1, 99, 30), 0);
        Check.due("vain(1, 0, 30): 0, 30, 60, 90", x.vain(1, 0, 30), 4);
        Check.due("vain(1, 9, 30): 9, 39, 69, and 99 is READY", x.vain(1, 9, 30), 3);
        Check.due("vain(1, 8, 30): 8, 38, 68, 98", x.vain(1, 8, 30), 4);
        Check.due("vain(1, 10, 30): 10, 40, 70", x.vain(1, 10, 30), 3);
        Check.due("READY in MINUTE 0, vain(2, 0, 1)", x.vain(2, 0, 1), 0);
        Check.due("READY in MINUTE 0, vain(2, 0, 30)", x.vain(2, 0, 30), 0);
        Check.due("vain(2, 99, 30)", x.vain(2, 99, 30), 0);
        Check.due("never, vain(3, 0, 1)", x.vain(3, 0, 1), -9);
        Check.due("never, vain(3, 99, 30)", x.vain(3, 99, 30), -9);
        x.sent(4, 58);
        Check.due("vain(1, 0, 1)", x.vain(1, 0, 1), 62);
        Check.due("not by MINUTE 99", Check.floorOf(LATE).vain(0, 0, 1), -9);
    }

    private static void seen() {
        Check.said("SEEN: the ROW as what lies from the top: behind how many MINUTES (0 .. 99) it was just that; the first; -9");
        WhosePage none = new WhosePage();
        Check.due("an empty ROW, nothing lies", none.seen(0), 100);
        Check.due("the first", none.seen(1), 0);
        none.row(1);
        Check.due("a ROW, nothing lies", none.seen(0), 0);
        Check.due("the first", none.seen(1), -9);
        WhosePage x = Check.floorOf("j02,59;ta00,99;");
        Check.due("an empty ROW: 0 .. 58 and 99", x.seen(0), 60);
        Check.due("the first", x.seen(1), 0);
        x.row(2);
        Check.due("the top alone is not all", x.seen(0), 0);
        x.row(1);
        Check.due("60 .. 98", x.seen(0), 39);
        Check.due("the first", x.seen(1), 60);
        x.comes(0, 0);
        Check.due("to MINUTE 99", x.seen(0), 40);
        x.judge();
        Check.tellRow(x, 1, 2);
        Check.due("from the bottom", x.seen(0), 0);
        Check.due("from the bottom", x.seen(1), -9);
        WhosePage last = Check.floorOf(LATE + "ta00,98;");
        last.row(45);
        Check.due("behind MINUTE 99 alone", last.seen(0), 1);
        Check.due("the first", last.seen(1), 99);
        WhosePage first = Check.floorOf("j02,0;");
        first.row(1);
        Check.due("behind MINUTE 0 alone", first.seen(0), 1);
        Check.due("the first", first.seen(1), 0);
        WhosePage twice = Check.floorOf("j01,0;j01,9;ta00,5;td01,9;");
        Check.due("empty in two stretches", twice.seen(0), 95);
        Check.due("the first", twice.seen(1), 5);
    }

    private static void seenFullRow() {
        Check.said("SEEN: it was just that (20 in the ROW)");
        WhosePage x = floor(3, 0, "j09,0;j09,0;j09,0;");
        Check.tellRow(x, 1, 2, 3, 4, 5, 6, 7, 8, 9, 11, 12, 13, 14, 15, 16, 17, 18, 19, 21, 22);
        Check.due("20 lie", x.seen(0), 1);
        Check.due("the first", x.seen(1), 19);
        Check.said("(the ROW stays)");
        Check.due("count(5)", x.count(5), 20);
        x.sent(2, 20);
        Check.due("22 came later", x.seen(1), 21);
    }

    private static void judged() {
        Check.said("JUDGED: the first that is not so (or beyond OUT); -9 none (OUT may go on); the ROW has none then");
        WhosePage x = Check.floorOf("j09,0;j09,0;j02,0;");
        Check.due("an empty ROW", x.judge(), -9);
        int[] all = {1, 2, 3, 4, 5, 6, 7, 8, 9, 11, 12, 13, 14, 15, 16, 17, 18, 19, 21, 22};
        for (int many = 1; many <= MOST_IN_ROW; many++) {
            Check.tellRow(x, Arrays.copyOf(all, many));
            Check.due(many + " as OUT", x.judge(), -9);
            Check.due("count(5)", x.count(5), 0);
            int[] wrong = Arrays.copyOf(all, many);
            wrong[many - 1]++;
            Check.tellRow(x, wrong);
            Check.due("the last of " + many + " is not so", x.judge(), many - 1);
            Check.due("count(5)", x.count(5), 0);
        }
        Check.tellRow(x, 2, 1);
        Check.due("the first of several", x.judge(), 0);
        WhosePage few = Check.floorOf("j02,0;");
        Check.tellRow(few, 1, 2, 3);
        Check.due("beyond OUT", few.judge(), 2);
        Check.tellRow(few, 1, 2, 0);
        Check.due("beyond OUT", few.judge(), 2);
        WhosePage none = new WhosePage();
        none.row(0);
        Check.due("beyond OUT", none.judge(), 0);
        Check.due("an empty ROW", none.judge(), -9);
    }

    // ---- LOTS

    private static void lotsDays() {
        Check.said("LOTS: n DAYS (1 .. 20), each with all JOBS SENT at DRAWS: MIXED of all together");
        Check.due("no JOBS", new WhosePage().lots(20, 7), 0);
        Check.due("one JOB", Check.floorOf("j09,0;").lots(20, 7), 0);
        WhosePage x = Check.floorOf("j01,3;j01,9;");
        Check.due("lots(0, 7)", x.lots(0, 7), -4);
        Check.due("lots(21, 7)", x.lots(21, 7), -6);
        for (int n = 1; n <= 20; n++) {
            Check.due("each DAY is MIXED once, lots(" + n + ", 7)", x.lots(n, 7), n);
        }
        Check.due("SENT stays", x.job(0, 2), 3);
        Check.due("SENT stays", x.job(1, 2), 9);
        Check.due("the same once more", x.lots(20, 7), 20);
    }

    /** The DRAWS stand here as numbers, for seeds at both ends of int and where the sign changes. */
    private static void lotsDraws() {
        Check.said("A DRAW below m: z becomes z times 1664525 and 1013904223 (an int); (z without its sign's bit by 256, cut) modulo m");
        int[][] seedsAndDraws = {
            {Integer.MIN_VALUE, 23, 57, 6, 59, 49, 50, 44, 47, 54, 15, 27, 9},
            {Integer.MIN_VALUE + 1, 45, 33, 9, 30, 1, 49, 17, 27, 50, 0, 12, 23},
            {-1, 1, 20, 56, 27, 28, 59, 10, 7, 7, 29, 42, 55},
            {0, 23, 57, 6, 59, 49, 50, 44, 47, 54, 15, 27, 9},
            {1, 45, 33, 9, 30, 1, 49, 17, 27, 50, 0, 12, 23},
            {7, 57, 5, 56, 40, 47, 17, 45, 36, 24, 35, 52, 21},
            {Integer.MAX_VALUE - 1, 39, 43, 53, 56, 8, 1, 37, 27, 11, 51, 57, 49},
            {Integer.MAX_VALUE, 1, 20, 56, 27, 28, 59, 10, 7, 7, 29, 42, 55},
        };
        for (String letters : new String[] {"mt0;j09,0;j09,0;", "ms0;j09,0;j04,0;j06,0;", "mb0;j18,0;j05,0;j19,0;j07,0;",
            "mt0;j09,0;j07,0;j09,0;j05,0;j03,0;j09,0;", "ma2;j09,0;j09,0;j09,0;j09,0;j09,0;j09,0;"}) {
            for (int[] seed : seedsAndDraws) {
                WhosePage x = Check.floorOf(letters);
                WhosePage byHand = Check.floorOf(letters);
                int jobs = x.count(0);
                int sum = 0;
                for (int n = 1; n * jobs < seed.length; n++) {
                    for (int job = 0; job < jobs; job++) {
                        byHand.sent(job, seed[1 + (n - 1) * jobs + job]);
                    }
                    sum += byHand.mixed();
                    Check.due("lots(" + n + ", " + seed[0] + ") of " + letters, x.lots(n, seed[0]), sum);
                }
            }
        }
    }

    // ---- THE IMAGE

    private static void image() {
        Check.said("THE IMAGE: all that is told (but the ROW, letters, REFUSALS); ON from it all is as then");
        Check.due("nothing told, image()", new WhosePage().image(), 0);
        WhosePage x = Check.floorOf("j12,5;j03,59;ms9;th29,99;tc30,0;");
        List<Integer> then = Check.stateOf(x);
        Check.due("image()", x.image(), 2);
        x.sent(0, 6);
        x.comes(1, 1);
        Check.tell(x, "j01,0;j01,0;j01,0;j01,0;ta00,0;ta00,0;ta00,0;ta00,0;mb0;");
        Check.due("on()", x.on(), 2);
        Check.dueList("as then", Check.stateOf(x), then.toArray(new Integer[0]));
        Check.due("room as then", Check.tell(x, "j01,0;j01,0;j01,0;j01,0;ta00,0;ta00,0;ta00,0;ta00,0;"), 8);
        Check.due("image() of six", x.image(), 6);
        Check.due("on() of six", x.on(), 6);
        Check.due("count(2)", x.count(2), 6);
    }

    private static void on() {
        Check.said("ON from it: how many JOBS. -3 there is none");
        WhosePage x = Check.floorOf("j12,5;");
        Check.due("on()", x.on(), -3);
        Check.due("on()", x.on(), -3);
        Check.due("image()", x.image(), 1);
        Check.due("on()", x.on(), 1);
        Check.due("on() once more", x.on(), 1);
        Check.said("but the ROW, letters, REFUSALS");
        Check.tellRow(x, 1, 2, 3);
        x.letter('m');
        x.letter('s');
        Check.due("on()", x.on(), 1);
        Check.due("the ROW stays", x.count(5), 3);
        Check.due("letters stay", x.count(6), 2);
        Check.due("REFUSALS stay", x.count(13), 2);
        Check.due("the letters are these", Check.tell(x, "7;"), 1);
        Check.due("count(4)", x.count(4), 7);
        Check.due("the ROW is this", x.judge(), 2);
        x.image();
        x.judge();
        x.row(5);
        x.on();
        Check.due("the ROW is as it was behind", x.count(5), 1);
    }

    private static void count() {
        Check.said("0 JOBS, 1 all SHEETS, 2 TAKERS, 3 the KIND, 4 STOP, 5 in the ROW, 6 letters, 11 .. 16 REFUSALS -1 .. -6. -9 for another what");
        WhosePage none = new WhosePage();
        for (int what = -3; what <= 20; what++) {
            boolean is = what >= 0 && what <= 6 || what >= 11 && what <= 16;
            Check.due("nothing told, count(" + what + ")", none.count(what), is ? 0 : -9);
        }
        WhosePage x = Check.floorOf("j09,0;j09,0;j09,0;j09,0;j09,0;j09,0;");
        Check.tell(x, "ta00,0;ta00,0;ta00,0;ta00,0;ta00,0;ta00,0;mb9;");
        int[] due = {6, 54, 6, 5, 9};
        for (int what = 0; what < due.length; what++) {
            Check.due("full, count(" + what + ")", x.count(what), due[what]);
        }
        for (int i = 1; i <= 5; i++) {
            x.who(0);
            Check.due("count(11)", x.count(11), i);
            x.seen(2);
            Check.due("count(12)", x.count(12), i);
            x.on();
            Check.due("count(13)", x.count(13), i);
            x.row(-1);
            Check.due("count(14)", x.count(14), i);
            x.row(100);
            Check.due("count(16)", x.count(16), i);
            Check.due("there is no REFUSAL -5, count(15)", x.count(15), 0);
        }
    }

    private static void callsOfOneObject() {
        Check.said("An object is used for at most 512 calls");
        WhosePage x = new WhosePage();
        for (int i = 1; i <= 510; i++) {
            x.letter(-1);
        }
        Check.due("call 511", x.letter(-1), -4);
        Check.due("call 512", x.count(14), 511);
        Check.said("Use of two objects");
        WhosePage one = Check.floorOf("j01,0;");
        WhosePage other = new WhosePage();
        Check.due("the other is new", other.count(0), 0);
        Check.due("the one is as it was", one.count(0), 1);
    }
}
