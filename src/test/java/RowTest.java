/** Promises 20 to 24 and 27 to 33: the ROW, LOTS, THE IMAGE, counting. */
public final class RowTest {
    private static final int ROOM = 20;

    public static void main(String[] args) {
        two();
        three();
        parts();
        lacks();
        laps();
        seen();
        row();
        judge();
        lots();
        image();
        count();
        Check.end();
    }

    private static WhosePage withRow(String letters, int... numbers) {
        WhosePage x = Check.floorOf(letters);
        Check.tellRow(x, numbers);
        return x;
    }

    private static void two() {
        WhosePage x = withRow("j02,0;j13,0;", 1, 11, 2, 12, 13);
        Check.due("two", x.two(0, 1), 4);
        Check.due("two the other way", x.two(1, 0), 4);
        Check.due("the ROW stays", x.count(5), 5);
        Check.due("digits alone", withRow("j02,0;j13,0;", 91, 72, 51, 2, 33).two(0, 1), 2);
        Check.due("one behind the other", withRow("j02,0;j13,0;", 1, 2, 11, 12, 13).two(0, 1), 2);
        Check.due("one way only", withRow("j02,0;j13,0;", 1, 2, 3, 1, 2).two(0, 1), 1);
        Check.due("not in order", withRow("j02,0;j13,0;", 1, 2, 12, 11, 13).two(0, 1), 0);
        Check.due("too short", withRow("j02,0;j13,0;", 1, 11, 2, 12).two(0, 1), 0);
        Check.due("too long", withRow("j02,0;j13,0;", 1, 11, 2, 12, 13, 14).two(0, 1), 0);
        Check.due("a nought", withRow("j02,0;j13,0;", 0, 11, 2, 12, 13).two(0, 1), 0);
        Check.due("no ROW", withRow("j02,0;j13,0;").two(0, 1), 0);
        Check.due("most ways", withRow("j09,0;j19,0;",
                1, 1, 2, 2, 3, 3, 4, 4, 5, 5, 6, 6, 7, 7, 8, 8, 9, 9).two(0, 1), 512);
        Check.refused(x, "two(0, 0)", () -> x.two(0, 0), -1);
        Check.refused(x, "two(0, 2)", () -> x.two(0, 2), -1);
        Check.refused(x, "two(2, 0)", () -> x.two(2, 0), -1);
        Check.refused(x, "two(-1, 0)", () -> x.two(-1, 0), -1);
        Check.refused(x, "two(0, -1)", () -> x.two(0, -1), -1);
    }

    private static void three() {
        WhosePage x = withRow("j01,0;j12,0;j23,0;", 1, 1, 1, 2, 2, 3);
        Check.due("three", x.three(0, 1, 2), 12);
        Check.due("three the other way", x.three(2, 0, 1), 12);
        Check.due("the ROW stays", x.count(5), 6);
        Check.due("two ways", withRow("j01,0;j12,0;j23,0;", 1, 2, 1, 2, 3, 1).three(0, 1, 2), 2);
        Check.due("none", withRow("j01,0;j12,0;j23,0;", 1, 1, 2, 3, 3, 1).three(0, 1, 2), 0);
        Check.due("too short", withRow("j01,0;j12,0;j23,0;", 1, 1, 1, 2, 2).three(0, 1, 2), 0);
        Check.due("most ways", withRow("j06,0;j16,0;j28,0;",
                1, 1, 1, 2, 2, 2, 3, 3, 3, 4, 4, 4, 5, 5, 5, 6, 6, 6, 7, 8).three(0, 1, 2), 46656);
        Check.due("more than a ROW has", withRow("j09,0;j19,0;j29,0;",
                1, 1, 1, 2, 2, 2, 3, 3, 3, 4, 4, 4, 5, 5, 5, 6, 6, 6, 7, 8).three(0, 1, 2), 0);
        Check.refused(x, "three(0, 1, 0)", () -> x.three(0, 1, 0), -1);
        Check.refused(x, "three(0, 1, 1)", () -> x.three(0, 1, 1), -1);
        Check.refused(x, "three(1, 1, 0)", () -> x.three(1, 1, 0), -1);
        Check.refused(x, "three(3, 1, 0)", () -> x.three(3, 1, 0), -1);
        Check.refused(x, "three(0, 3, 1)", () -> x.three(0, 3, 1), -1);
        Check.refused(x, "three(0, 1, 3)", () -> x.three(0, 1, 3), -1);
        Check.refused(x, "three(0, 1, -1)", () -> x.three(0, 1, -1), -1);
    }

    private static void parts() {
        Check.due("no ROW", new WhosePage().parts(), 0);
        Check.due("rising", withRow("mf0;", 10, 1, 2, 53, 9).parts(), 1);
        Check.due("one twice", withRow("mf0;", 11, 1).parts(), 2);
        Check.due("falling", withRow("mf0;", 9, 18, 27, 36).parts(), 4);
        Check.due("run together", withRow("mf0;", 1, 11, 2, 12, 3, 13).parts(), 2);
        Check.due("not by neighbours", withRow("mf0;", 5, 1, 6, 2, 7, 3).parts(), 2);
        Check.due("by the longest that nowhere rises", withRow("mf0;", 3, 9, 1, 5, 2, 4, 4, 0).parts(), 5);
        WhosePage x = withRow("mf0;", 4, 3, 2);
        x.parts();
        Check.due("the ROW stays", x.count(5), 3);
    }

    private static void lacks() {
        WhosePage x = withRow("j04,0;j19,0;", 1, 3, 13, 24, 10);
        Check.due("lacks(0)", x.lacks(0), 4 + 16);
        Check.due("lacks(1)", x.lacks(1), 1022 - 8);
        Check.due("the ROW stays", x.count(5), 5);
        Check.tellRow(x, 2, 4, 9, 2);
        Check.due("nothing lacks", x.lacks(0), 0);
        Check.due("no ROW", Check.floorOf("j01,0;").lacks(0), 2);
        Check.refused(x, "lacks(2)", () -> x.lacks(2), -1);
        Check.refused(x, "lacks(-1)", () -> x.lacks(-1), -1);
    }

    private static void laps() {
        Check.due("no ROW", new WhosePage().laps(2), 0);
        Check.due("in order", withRow("mf0;", 0, 10, 11, 99).laps(2), 0);
        Check.due("one only", withRow("mf0;", 7, 7, 7).laps(9), 0);
        Check.due("two runs", withRow("mf0;", 5, 4).laps(2), 1);
        Check.due("by the whole number", withRow("mf0;", 9, 10, 21).laps(2), 0);
        Check.due("each where it comes first", withRow("mf0;", 1, 2, 1, 3, 2).laps(2), 0);
        WhosePage three = withRow("mf0;", 30, 20, 10);
        Check.due("three runs on two", three.laps(2), 2);
        Check.due("three runs on three", three.laps(3), 1);
        Check.due("the ROW stays", three.count(5), 3);
        WhosePage x = new WhosePage();
        for (int i = 0; i < ROOM; i++) {
            x.row(99 - i);
        }
        int[] due = {5, 3, 3, 2, 2, 2, 2, 2};
        for (int places = 2; places <= 9; places++) {
            Check.due("twenty runs on " + places, x.laps(places), due[places - 2]);
        }
        Check.refused(x, "laps(1)", () -> x.laps(1), -4);
        Check.refused(x, "laps(least)", () -> x.laps(Integer.MIN_VALUE), -4);
        Check.refused(x, "laps(10)", () -> x.laps(10), -6);
        Check.due("nine runs on three", withRow("mf0;", 9, 8, 7, 6, 5, 4, 3, 2, 1).laps(3), 2);
        Check.due("ten runs on three", withRow("mf0;", 9, 8, 7, 6, 5, 4, 3, 2, 1, 0).laps(3), 3);
    }

    private static void seen() {
        WhosePage x = Check.floorOf("j03,2;j11,10;ta00,20;");
        Check.due("the empty tray", x.seen(0), 2 + 80);
        Check.due("first", x.seen(1), 0);
        Check.tellRow(x, 2, 1);
        Check.due("two lie", x.seen(0), 1);
        Check.due("first", x.seen(1), 3);
        Check.due("the ROW stays", x.count(5), 2);
        x.judge();
        Check.tellRow(x, 3, 2, 1);
        Check.due("three lie", x.seen(0), 6);
        Check.due("first", x.seen(1), 4);
        x.judge();
        Check.tellRow(x, 1, 2);
        Check.due("never so", x.seen(0), 0);
        Check.due("never so", x.seen(1), -9);
        x.judge();
        Check.tellRow(x, 3);
        Check.due("not only the top", x.seen(0), 0);
        Check.refused(x, "seen(2)", () -> x.seen(2), -2);
        Check.refused(x, "seen(-1)", () -> x.seen(-1), -2);
        x.comes(0, 99);
        x.judge();
        Check.due("empty behind the last MINUTE, too", x.seen(0), 3);
    }

    private static void row() {
        WhosePage x = Check.floorOf("j01,0;");
        Check.due("row(0)", x.row(0), 1);
        Check.due("row(99)", x.row(99), 2);
        Check.refused(x, "row(-1)", () -> x.row(-1), -4);
        Check.refused(x, "row(100)", () -> x.row(100), -6);
        for (int i = 3; i <= ROOM; i++) {
            Check.due("row " + i, x.row(i), i);
        }
        Check.refused(x, "row 21", () -> x.row(1), -6);
        Check.refused(x, "row 21 below", () -> x.row(-1), -4);
        Check.due("count(5)", x.count(5), ROOM);
    }

    private static void judged(WhosePage x, int due, int... numbers) {
        Check.tellRow(x, numbers);
        Check.due("judge()", x.judge(), due);
        Check.due("the ROW has none then", x.count(5), 0);
    }

    private static void judge() {
        WhosePage x = Check.floorOf("j02,5;j12,0;");
        judged(x, -9);
        judged(x, -9, 11);
        judged(x, -9, 11, 12, 1, 2);
        judged(x, 4, 11, 12, 1, 2, 2);
        judged(x, 0, 1, 2);
        judged(x, 1, 11, 1, 1);
        judged(x, 3, 11, 12, 1, 99, 0);
        judged(new WhosePage(), 0, 0);
    }

    private static int draw(int[] seed) {
        seed[0] = seed[0] * 1664525 + 1013904223;
        return (int) ((seed[0] & 0x7fffffffL) / 256 % 60);
    }

    private static void lots() {
        WhosePage x = Check.floorOf("j04,1;j13,2;j25,3;j02,4;mt0;");
        for (int z : new int[] {0, 1, -1, 7, Integer.MIN_VALUE, Integer.MAX_VALUE, 123456789}) {
            WhosePage y = Check.floorOf("j04,1;j13,2;j25,3;j02,4;mt0;");
            int[] seed = {z};
            int sum = 0;
            for (int n = 1; n <= 20; n++) {
                for (int job = 0; job < 4; job++) {
                    y.sent(job, draw(seed));
                }
                sum += y.mixed();
                Check.due("lots(" + n + ", " + z + ")", x.lots(n, z), sum);
            }
        }
        Check.due("SENT stays", x.job(3, 2), 4);
        WhosePage turned = Check.floorOf("j09,0;j19,0;");
        int asFirst = turned.lots(1, 5);
        turned.machine(2, 0);
        turned.sent(0, 22);
        Check.due("a FIRST mixes once", asFirst, 1);
        Check.due("as the MACHINE is now", turned.lots(20, 5) > 20 * asFirst ? 0 : 1, 0);
        Check.due("no JOBS", new WhosePage().lots(20, 5), 0);
        Check.due("two of one", Check.floorOf("j01,0;j01,0;").lots(20, 5), 20);
        Check.refused(x, "lots(0, 0)", () -> x.lots(0, 0), -4);
        Check.refused(x, "lots(-1, 0)", () -> x.lots(-1, 0), -4);
        Check.refused(x, "lots(21, 0)", () -> x.lots(21, 0), -6);
    }

    private static void image() {
        WhosePage x = Check.floorOf("j02,5;j12,0;mb3;th12,9;");
        Check.refused(x, "on()", x::on, -3);
        Check.due("image()", x.image(), 2);
        x.letter('m');
        x.row(5);
        x.row(6);
        Check.tell(x, "s4;j31,1;ta00,0;");
        x.letter('m');
        x.sent(0, 9);
        x.comes(0, 1);
        x.letter(-1);
        Check.due("on()", x.on(), 2);
        Check.dueList("as then, but for ROW and letters", Check.stateOf(x),
                2, 4, 1, 5, 3, 2, 1, 0, 2, 5, 6, 1, 2, 0, 6, 2, 1, 2, 9, 1, 0);
        Check.due("REFUSALS stay", x.count(13), 1);
        Check.due("REFUSALS stay", x.count(14), 1);
        Check.tell(x, "s4;j31,1;");
        Check.due("a JOB more", x.count(0), 3);
        Check.due("on() once more", x.on(), 2);
        x.sent(0, 7);
        x.machine(2, 2);
        Check.due("image() anew", x.image(), 2);
        x.sent(0, 8);
        x.machine(3, 3);
        x.on();
        Check.due("as of late", x.job(0, 2), 7);
        Check.due("as of late", x.machine(0, 0), 22);
        WhosePage empty = new WhosePage();
        Check.due("image() of nothing", empty.image(), 0);
        Check.tell(empty, "j02,5;ta00,0;mb3;");
        Check.due("on()", empty.on(), 0);
        Check.dueList("nothing", Check.stateOf(empty), 0, 0, 0, 0, 0, 0, 0, 0, 0);
    }

    private static void count() {
        WhosePage x = Check.floorOf("j02,5;j19,0;mb3;th12,9;");
        Check.tellRow(x, 4, 5, 6);
        x.letter('j');
        int[] due = {2, 11, 1, 5, 3, 3, 1};
        for (int what = 0; what <= 6; what++) {
            Check.due("count(" + what + ")", x.count(what), due[what]);
        }
        for (int what : new int[] {-1, 7, 8, 9, 10, 17, Integer.MIN_VALUE, Integer.MAX_VALUE}) {
            Check.due("count(" + what + ")", x.count(what), -9);
        }
        x.who(0);
        x.job(9, 9);
        x.job(0, 9);
        x.on();
        x.row(-1);
        x.row(100);
        x.row(101);
        int[] refusals = {2, 1, 1, 1, 0, 2};
        for (int i = 0; i < 6; i++) {
            Check.due("count(" + (11 + i) + ")", x.count(11 + i), refusals[i]);
        }
    }
}
