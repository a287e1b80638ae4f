/** Promises 1 to 8: a new object, letters, the FLOOR and its FAULTS, JOBS, TAKERS, the MACHINE. */
public final class FloorTest {
    private static final int LETTERS = 80;

    public static void main(String[] args) {
        newObject();
        letters();
        floors();
        grammarFaults();
        earlierLetters();
        meaningFaults();
        faultsChangeNothing();
        jobs();
        takers();
        sent();
        machine();
        comes();
        Check.end();
    }

    private static void newObject() {
        WhosePage x = new WhosePage();
        for (int what = 0; what <= 6; what++) {
            Check.due("new count(" + what + ")", x.count(what), 0);
        }
        for (int what = 11; what <= 16; what++) {
            Check.due("new count(" + what + ")", x.count(what), 0);
        }
        Check.due("new machine(1, 2)", x.machine(1, 2), 0);
        Check.due("new outMany()", x.outMany(), 0);
    }

    private static void letters() {
        WhosePage x = new WhosePage();
        Check.due("letter(0)", x.letter(0), 1);
        Check.due("letter(255)", x.letter(255), 2);
        Check.refused(x, "letter(-1)", () -> x.letter(-1), -4);
        Check.refused(x, "letter(least)", () -> x.letter(Integer.MIN_VALUE), -4);
        Check.refused(x, "letter(256)", () -> x.letter(256), -6);
        Check.refused(x, "letter(greatest)", () -> x.letter(Integer.MAX_VALUE), -6);
        for (int i = 3; i <= LETTERS; i++) {
            Check.due("letter " + i, x.letter('j'), i);
        }
        Check.refused(x, "letter 81", () -> x.letter('j'), -6);
        Check.refused(x, "letter 81 below", () -> x.letter(-1), -4);
        Check.due("floor()", x.floor(), -1000);
        Check.due("count(6)", x.count(6), 0);
        Check.due("letter behind floor()", x.letter('j'), 1);
    }

    private static void floors() {
        WhosePage x = new WhosePage();
        Check.due("floor j", Check.tell(x, "j29,7;"), 1);
        Check.due("count(6)", x.count(6), 0);
        Check.due("floor m t", Check.tell(x, "mb9;tc39,99;"), 2);
        Check.due("floor more", Check.tell(x, "j01,00;ta00,0;j39,59;mf0;ms3;"), 5);
        Check.due("count(0)", x.count(0), 3);
        Check.due("count(1)", x.count(1), 19);
        Check.due("count(2)", x.count(2), 2);
        Check.due("count(3)", x.count(3), 1);
        Check.due("count(4)", x.count(4), 3);
        Check.due("80 letters", Check.tell(new WhosePage(), "mf0;".repeat(20)), 20);
        Check.due("79 letters", Check.tell(new WhosePage(), "mf0;".repeat(19) + "mf0"), -1079);
        Check.due("80 letters, the last wrong", Check.tell(new WhosePage(), "mf0;".repeat(19) + "mf0,"), -1079);
        Check.due("80 letters, something lacks", Check.tell(new WhosePage(), "mf0;".repeat(18) + "j01,01;j"), -1080);
    }

    private static void grammarFault(String letters, int place) {
        WhosePage x = new WhosePage();
        Check.due("floor() of \"" + letters + "\"", Check.tell(x, letters), -1000 - place);
        Check.due("count(6) behind it", x.count(6), 0);
        for (int what = 11; what <= 16; what++) {
            Check.due("count(" + what + ") behind it", x.count(what), 0);
        }
    }

    private static void grammarFaults() {
        grammarFault("", 0);
        grammarFault(";", 0);
        grammarFault("J01,0;", 0);
        grammarFault("j", 1);
        grammarFault("j0", 2);
        grammarFault("j01", 3);
        grammarFault("j01,", 4);
        grammarFault("j01,0", 5);
        grammarFault("j01,00", 6);
        grammarFault("j01,000;", 6);
        grammarFault("j01,;", 4);
        grammarFault("j01;", 3);
        grammarFault("j0,1;", 2);
        grammarFault("jx1,0;", 1);
        grammarFault("j/1,0;", 1);
        grammarFault("j:1,0;", 1);
        grammarFault("m", 1);
        grammarFault("mf", 2);
        grammarFault("mf0", 3);
        grammarFault("mf00;", 3);
        grammarFault("mh0;", 1);
        grammarFault("mc0;", 1);
        grammarFault("m0;", 1);
        grammarFault("t", 1);
        grammarFault("tf00,0;", 1);
        grammarFault("ts00,0;", 1);
        grammarFault("ta", 2);
        grammarFault("ta0", 3);
        grammarFault("ta00", 4);
        grammarFault("ta00,", 5);
        grammarFault("ta00,9", 6);
        grammarFault("ta00,99", 7);
        grammarFault("ta00,100;", 7);
        grammarFault("mf0;;", 4);
        grammarFault("mf0; ", 4);
        grammarFault("mf0;j99,99;x", 11);
        grammarFault("j99,99;m", 8);
        grammarFault("j01,0;" + (char) 255, 6);
    }

    /** Letters of an earlier text, or of none, are not read behind the end. */
    private static void earlierLetters() {
        WhosePage x = Check.floorOf("j01,01;mf0;");
        for (String whole : new String[] {"j01,01;", "mf0;", "ta00,00;"}) {
            for (int end = 0; end < whole.length(); end++) {
                Check.tell(x, whole);
                Check.due("floor() behind " + whole, Check.tell(x, whole.substring(0, end)), -1000 - end);
            }
        }
        String ahead = "j01,01;".repeat(3) + "mf0;".repeat(14);
        Check.due("80 letters, a \";\" lacks", Check.tell(new WhosePage(), ahead + "mf0"), -1080);
        Check.due("79 letters, a digit lacks", Check.tell(new WhosePage(), ahead + "mf"), -1079);
        Check.due("80 letters, a KIND lacks", Check.tell(new WhosePage(),
                "j01,01;".repeat(5) + "mf0;".repeat(11) + "m"), -1080);
    }

    private static void meaningFault(String letters, int place) {
        WhosePage x = new WhosePage();
        Check.due("floor() of \"" + letters + "\"", Check.tell(x, letters), -2000 - place);
        Check.due("count(0) behind it", x.count(0), 0);
        Check.due("count(2) behind it", x.count(2), 0);
        Check.due("count(3) behind it", x.count(3), 0);
        Check.due("count(6) behind it", x.count(6), 0);
        for (int what = 11; what <= 16; what++) {
            Check.due("count(" + what + ") behind it", x.count(what), 0);
        }
    }

    private static void meaningFaults() {
        meaningFault("j41,0;", 0);
        meaningFault("j00,0;", 0);
        meaningFault("j01,60;", 0);
        meaningFault("mb1;j01,99;", 4);
        meaningFault("ta40,0;", 0);
        meaningFault("j31,59;tc99,99;", 7);
        meaningFault("j31,59;mb3;tc39,99;j01,60;ta90,0;", 19);
        meaningFault("j01,0;".repeat(7), 36);
        meaningFault("ta00,0;".repeat(7), 42);
    }

    private static void faultsChangeNothing() {
        WhosePage x = Check.floorOf("j12,3;mt4;th15,6;");
        Check.due("grammar fault", Check.tell(x, "j01,0;mb9;ta00,0;!"), -1017);
        Check.due("meaning fault", Check.tell(x, "j01,0;mb9;ta00,0;j09,60;"), -2017);
        Check.dueList("the state", Check.stateOf(x), 1, 2, 1, 2, 4, 0, 0, 1, 2, 3, 6, 2, 1, 5, 6, 0, 0);
        Check.due("five more", Check.tell(x, "j01,0;".repeat(5)), 5);
        Check.due("a seventh", Check.tell(x, "mf0;j01,0;"), -2004);
        Check.due("five takers more", Check.tell(x, "ta00,0;".repeat(5)), 5);
        Check.due("a seventh taker", Check.tell(x, "ta00,0;"), -2000);
        Check.due("count(0)", x.count(0), 6);
        Check.due("count(2)", x.count(2), 6);
        Check.due("count(3)", x.count(3), 2);
    }

    private static void jobs() {
        WhosePage x = Check.floorOf("j35,59;j19,07;");
        int[][] due = {{3, 5, 59}, {1, 9, 7}};
        for (int job = 0; job < 2; job++) {
            for (int what = 0; what < 3; what++) {
                Check.due("job(" + job + ", " + what + ")", x.job(job, what), due[job][what]);
            }
        }
        Check.refused(x, "job(-1, 0)", () -> x.job(-1, 0), -1);
        Check.refused(x, "job(2, 0)", () -> x.job(2, 0), -1);
        Check.refused(x, "job(2, 9)", () -> x.job(2, 9), -1);
        Check.refused(x, "job(1, 3)", () -> x.job(1, 3), -2);
        Check.refused(x, "job(1, -1)", () -> x.job(1, -1), -2);
    }

    private static void takers() {
        WhosePage x = Check.floorOf("ta01,2;to13,04;th25,56;tn37,78;td09,99;tc10,0;");
        int[][] due = {{0, 0, 1, 2}, {1, 1, 3, 4}, {2, 2, 5, 56}, {3, 3, 7, 78}, {4, 0, 9, 99}, {5, 1, 0, 0}};
        for (int taker = 0; taker < 6; taker++) {
            for (int what = 0; what < 4; what++) {
                Check.due("taker(" + taker + ", " + what + ")", x.taker(taker, what), due[taker][what]);
            }
        }
        Check.refused(x, "taker(-1, 0)", () -> x.taker(-1, 0), -1);
        Check.refused(x, "taker(6, 0)", () -> x.taker(6, 0), -1);
        Check.refused(x, "taker(6, 4)", () -> x.taker(6, 4), -1);
        Check.refused(x, "taker(5, 4)", () -> x.taker(5, 4), -2);
        Check.refused(x, "taker(5, -1)", () -> x.taker(5, -1), -2);
    }

    private static void sent() {
        WhosePage x = Check.floorOf("j01,5;j01,6;");
        Check.due("sent(0, 59)", x.sent(0, 59), 5);
        Check.due("sent(0, 0)", x.sent(0, 0), 59);
        Check.due("job(0, 2)", x.job(0, 2), 0);
        Check.due("job(1, 2)", x.job(1, 2), 6);
        Check.refused(x, "sent(2, -1)", () -> x.sent(2, -1), -1);
        Check.refused(x, "sent(-1, 60)", () -> x.sent(-1, 60), -1);
        Check.refused(x, "sent(1, -1)", () -> x.sent(1, -1), -4);
        Check.refused(x, "sent(1, 60)", () -> x.sent(1, 60), -6);
    }

    private static void machine() {
        WhosePage x = new WhosePage();
        int was = 0;
        for (int kind = 0; kind < 6; kind++) {
            Check.due("machine(" + kind + ", ..)", x.machine(kind, 9 - kind), was);
            was = 10 * kind + 9 - kind;
        }
        Check.refused(x, "machine(-1, -1)", () -> x.machine(-1, -1), -2);
        Check.refused(x, "machine(6, 10)", () -> x.machine(6, 10), -2);
        Check.refused(x, "machine(0, -1)", () -> x.machine(0, -1), -4);
        Check.refused(x, "machine(0, 10)", () -> x.machine(0, 10), -6);
        String kinds = "fstoab";
        for (int kind = 0; kind < 6; kind++) {
            Check.tell(x, "m" + kinds.charAt(kind) + kind + ";");
            Check.due("count(3)", x.count(3), kind);
            Check.due("count(4)", x.count(4), kind);
        }
    }

    private static void comes() {
        WhosePage x = Check.floorOf("ta00,5;ta00,6;");
        Check.due("comes(0, 99)", x.comes(0, 99), 5);
        Check.due("comes(0, 0)", x.comes(0, 0), 99);
        Check.due("taker(0, 3)", x.taker(0, 3), 0);
        Check.due("taker(1, 3)", x.taker(1, 3), 6);
        Check.refused(x, "comes(2, -1)", () -> x.comes(2, -1), -1);
        Check.refused(x, "comes(-1, 100)", () -> x.comes(-1, 100), -1);
        Check.refused(x, "comes(1, -1)", () -> x.comes(1, -1), -4);
        Check.refused(x, "comes(1, 100)", () -> x.comes(1, 100), -6);
    }
}
