import java.util.List;

/** Promises 9 to 19, 25 and 26: the DAY, who has which SHEET, how mixed it comes, who waits. */
public final class DayTest {
    public static void main(String[] args) {
        first();
        shortest();
        turn();
        over();
        again();
        boss();
        dayEnds();
        outRefusals();
        takersOfAll();
        takersOfOwn();
        takersOfFigures();
        takersInOneMinute();
        liesRefusals();
        holders();
        copies();
        asked();
        ready();
        mixed();
        byKind();
        send();
        waits();
        vain();
        Check.end();
    }

    private static WhosePage floor(int kind, int stop, String letters) {
        WhosePage x = Check.floorOf(letters);
        x.machine(kind, stop);
        return x;
    }

    private static void first() {
        WhosePage x = floor(0, 0, "j02,4;j12,3;j21,3;j31,9;");
        Check.dueList("FIRST", Check.outOf(x), 11, 12, 21, 1, 2, 31);
        int[] minutes = {3, 4, 5, 6, 7, 9};
        for (int k = 0; k < minutes.length; k++) {
            Check.due("minute of " + k, x.out(k, 1), minutes[k]);
        }
        Check.due("none such", x.out(6, 0), -9);
        Check.due("none such", x.out(6, 1), -9);
        Check.due("none such", x.out(Integer.MAX_VALUE, 0), -9);
        Check.due("outMany()", x.outMany(), 6);
        Check.dueList("a later one does not go ahead",
                Check.outOf(floor(0, 0, "j03,1;j12,0;")), 11, 12, 1, 2, 3);
        Check.dueList("an earlier one under way goes on",
                Check.outOf(floor(0, 0, "j03,0;j11,1;")), 1, 2, 3, 11);
    }

    private static void shortest() {
        Check.dueList("SHORT", Check.outOf(floor(1, 0, "j04,0;j12,1;j21,2;")), 1, 11, 12, 21, 2, 3, 4);
        Check.dueList("SHORT by what is left",
                Check.outOf(floor(1, 0, "j04,0;j13,2;")), 1, 2, 3, 4, 11, 12, 13);
        Check.dueList("SHORT alike as a FIRST, SENT first",
                Check.outOf(floor(1, 0, "j02,2;j12,1;j24,0;")), 21, 11, 12, 1, 2, 22, 23, 24);
        Check.dueList("SHORT alike as a FIRST, least number",
                Check.outOf(floor(1, 0, "j02,0;j02,0;")), 1, 2, 11, 12);
        Check.dueList("SHORT alike left, the other SENT first",
                Check.outOf(floor(1, 0, "j02,2;j14,0;")), 11, 12, 13, 14, 1, 2);
    }

    private static void turn() {
        Check.dueList("TURN", Check.outOf(floor(2, 0, "j02,0;j13,0;j21,0;")), 1, 11, 21, 2, 12, 13);
        Check.dueList("TURN, the least at first, not the one SENT first",
                Check.outOf(floor(2, 0, "j02,1;j12,1;j21,0;")), 21, 1, 11, 2, 12);
        Check.dueList("TURN goes on behind the latest one",
                Check.outOf(floor(2, 0, "j02,1;j13,0;j22,1;")), 11, 21, 1, 12, 22, 2, 13);
    }

    private static void over() {
        WhosePage x = floor(3, 0, "j02,0;j12,1;");
        Check.dueList("OVER comes as a FIRST", Check.outOf(x), 1, 2, 11, 12);
        Check.dueList("OVER comes beneath", Check.trayOf(x, 3), 1, 2, 11, 12);
        Check.dueList("OVER behind MINUTE 1", Check.trayOf(x, 1), 1, 2);
        x.machine(0, 0);
        Check.dueList("FIRST comes upon", Check.trayOf(x, 3), 12, 11, 2, 1);
        for (int kind : new int[] {1, 2, 4, 5}) {
            x.machine(kind, 0);
            Check.due("upon the tray", x.lies(0, 0), 1);
            Check.due("upon the tray", x.lies(3, 3), 1);
        }
    }

    private static void again() {
        WhosePage x = floor(4, 2, "j03,0;j12,8;");
        Check.dueList("AGAIN behind two", Check.outOf(x), 1, 2, 2, 3, 11, 11, 12);
        Check.dueList("AGAIN upon the tray", Check.trayOf(x, 99), 12, 11, 11, 3, 2, 2, 1);
        Check.due("the next MINUTE", x.out(2, 1), 2);
        Check.due("the next MINUTE", x.out(5, 1), 9);
        x.machine(4, 0);
        Check.dueList("STOP 0", Check.outOf(x), 1, 2, 3, 11, 12);
        x.machine(4, 5);
        Check.dueList("behind the last, too", Check.outOf(x), 1, 2, 3, 11, 12, 12);
        x.machine(4, 3);
        Check.dueList("though none is left then", Check.outOf(x), 1, 2, 3, 3, 11, 12);
        Check.due("the next MINUTE", x.out(3, 1), 3);
        x.machine(0, 1);
        Check.dueList("STOP is nothing to a FIRST", Check.outOf(x), 1, 2, 3, 11, 12);
    }

    private static void boss() {
        Check.dueList("BOSS", Check.outOf(floor(5, 0, "j32,0;j13,1;j02,2;")), 1, 11, 21, 22, 12, 13, 2);
        Check.dueList("BOSS alike as a SHORT",
                Check.outOf(floor(5, 0, "j13,0;j12,0;j31,0;")), 11, 12, 1, 2, 3, 21);
        Check.dueList("BOSS alike as a SHORT, then as a FIRST",
                Check.outOf(floor(5, 0, "j12,2;j12,1;j04,0;")), 21, 22, 23, 24, 11, 12, 1, 2);
    }

    private static void dayEnds() {
        WhosePage x = Check.floorOf("j09,59;j19,59;j29,59;j39,59;j09,59;");
        Check.due("outMany()", x.outMany(), 41);
        Check.due("the last", x.out(40, 0), 45);
        Check.due("its MINUTE", x.out(40, 1), 99);
        Check.due("the first", x.out(0, 1), 59);
        Check.due("who(45)", x.who(45), -9);
        Check.due("who(46)", x.who(46), -8);
        Check.due("ready(0)", x.ready(0), -9);
        Check.due("ready(3)", x.ready(3), 94);
        Check.due("lies(99, -1)", x.lies(99, -1), 41);
        x.machine(4, 1);
        Check.due("AGAIN outMany()", x.outMany(), 41);
        Check.due("AGAIN the last", x.out(40, 0), 23);
        Check.due("AGAIN the one ahead", x.out(39, 0), 22);
    }

    private static void outRefusals() {
        WhosePage x = Check.floorOf("j02,4;");
        Check.refused(x, "out(-1, 2)", () -> x.out(-1, 2), -4);
        Check.refused(x, "out(least, 0)", () -> x.out(Integer.MIN_VALUE, 0), -4);
        Check.refused(x, "out(0, 2)", () -> x.out(0, 2), -2);
        Check.refused(x, "out(9, -1)", () -> x.out(9, -1), -2);
    }

    private static void takersOfAll() {
        WhosePage x = Check.floorOf("j02,0;j12,0;ta20,2;");
        Check.dueList("ahead of ALL", Check.trayOf(x, 1), 2, 1);
        Check.dueList("behind ALL", Check.trayOf(x, 2));
        Check.dueList("later", Check.trayOf(x, 3), 12);
        Check.due("held(2, 1)", x.held(2, 1), 3);
        Check.due("held(2, 0)", x.held(2, 0), 0);
        Check.due("who(11)", x.who(11), 2);
        Check.due("who(12)", x.who(12), -9);
    }

    private static void takersOfOwn() {
        WhosePage own = Check.floorOf("j02,0;j12,0;j03,0;to09,5;");
        Check.dueList("OWN", Check.trayOf(own, 5), 12, 11);
        Check.due("OWN has", own.held(0, 0), 4);
        WhosePage neat = Check.floorOf("j02,0;j12,0;j03,0;tn09,5;tn09,0;tn19,2;");
        Check.dueList("NEAT, nothing whole", Check.trayOf(neat, 0), 1);
        Check.dueList("NEAT, another one's is whole", Check.trayOf(neat, 2), 11, 2, 1);
        Check.dueList("NEAT, one whole", Check.trayOf(neat, 5), 12, 11);
        WhosePage clerk = Check.floorOf("j02,0;j12,0;j03,0;tc09,5;tc09,0;tc19,2;tc29,4;");
        Check.dueList("CLERK, nothing whole", Check.trayOf(clerk, 0), 1);
        Check.dueList("CLERK, another one's is whole", Check.trayOf(clerk, 4), 21, 12, 11, 2, 1);
        Check.dueList("CLERK, one whole", Check.trayOf(clerk, 5), 22, 21, 12, 11);
        clerk.comes(0, 6);
        Check.dueList("CLERK, two whole", Check.trayOf(clerk, 6), 12, 11);
        WhosePage torn = Check.floorOf("j03,0;to00,0;tn00,2;tc00,2;");
        Check.dueList("a taken number is not there", Check.trayOf(torn, 2), 3, 2);
        WhosePage twice = floor(4, 1, "j02,0;tn00,2;tc00,3;");
        Check.dueList("NEAT with a number twice", Check.trayOf(twice, 2));
        twice.comes(0, 1);
        twice.comes(1, 9);
        Check.dueList("two of one number are not whole", Check.trayOf(twice, 1), 1, 1);
        Check.dueList("CLERK takes both", Check.trayOf(twice, 9));
    }

    private static void takersOfFigures() {
        WhosePage x = Check.floorOf("j05,0;th12,4;");
        Check.dueList("HANDFUL", Check.trayOf(x, 4), 3, 2, 1);
        Check.due("who(5)", x.who(5), 1);
        Check.due("who(3)", x.who(3), -9);
        WhosePage deep = Check.floorOf("j05,0;td12,4;");
        Check.dueList("DEEP", Check.trayOf(deep, 4), 5, 4, 3);
        Check.due("who(1)", deep.who(1), 1);
        WhosePage greedy = Check.floorOf("j05,0;th19,2;td19,4;");
        Check.dueList("HANDFUL of more than lie", Check.trayOf(greedy, 2));
        Check.dueList("DEEP of more than lie", Check.trayOf(greedy, 4));
        WhosePage nothing = Check.floorOf("j05,0;th10,4;td10,4;");
        Check.dueList("FIGURE 0", Check.trayOf(nothing, 4), 5, 4, 3, 2, 1);
    }

    private static void takersInOneMinute() {
        WhosePage x = Check.floorOf("j05,0;th11,4;td22,4;ta30,4;");
        Check.due("who(5)", x.who(5), 1);
        Check.due("who(1)", x.who(1), 2);
        Check.due("who(2)", x.who(2), 2);
        Check.due("who(3)", x.who(3), 3);
        Check.due("who(4)", x.who(4), 3);
        WhosePage y = Check.floorOf("j05,0;ta30,4;th11,4;");
        Check.due("by numbers", y.held(3, 1), 5);
        Check.due("by numbers", y.held(1, 1), 0);
    }

    private static void liesRefusals() {
        WhosePage x = Check.floorOf("j05,0;");
        Check.due("lies(0, -1)", x.lies(0, -1), 1);
        Check.due("lies(99, 4)", x.lies(99, 4), 1);
        Check.due("lies(99, 5)", x.lies(99, 5), -9);
        Check.due("lies(99, greatest)", x.lies(99, Integer.MAX_VALUE), -9);
        Check.refused(x, "lies(-1, 0)", () -> x.lies(-1, 0), -4);
        Check.refused(x, "lies(0, -2)", () -> x.lies(0, -2), -4);
        Check.refused(x, "lies(100, -2)", () -> x.lies(100, -2), -4);
        Check.refused(x, "lies(100, 0)", () -> x.lies(100, 0), -6);
    }

    private static void holders() {
        WhosePage x = Check.floorOf("j03,0;j12,0;j31,50;th12,4;ta00,9;");
        Check.due("held(1, 0)", x.held(1, 0), 2);
        Check.due("held(1, 1)", x.held(1, 1), 0);
        Check.due("held(0, 0)", x.held(0, 0), 3);
        x.comes(0, 3);
        Check.due("held(1, 0)", x.held(1, 0), 1);
        Check.due("held(1, 1)", x.held(1, 1), 1);
        Check.due("held(0, 0)", x.held(0, 0), 2);
        Check.due("held(0, 1)", x.held(0, 1), 1);
        Check.due("held(3, 0)", x.held(3, 0), 0);
        Check.due("who(3)", x.who(3), 1);
        Check.due("who(31 of no job)", x.who(21), -9);
        Check.refused(x, "held(4, 2)", () -> x.held(4, 2), -1);
        Check.refused(x, "held(-1, 0)", () -> x.held(-1, 0), -1);
        Check.refused(x, "held(0, 2)", () -> x.held(0, 2), -2);
        Check.refused(x, "held(0, -1)", () -> x.held(0, -1), -2);
        for (int sheet : new int[] {-1, 0, 4, 10, 13, 20, 22, 31, 99, Integer.MIN_VALUE, Integer.MAX_VALUE}) {
            Check.refused(x, "who(" + sheet + ")", () -> x.who(sheet), -1);
        }
    }

    private static void copies() {
        WhosePage x = floor(4, 1, "j02,0;ta10,0;to00,1;");
        Check.due("who took it latest has it", x.who(1), 0);
        Check.due("held(1, 1)", x.held(1, 1), 0);
        x.comes(1, 99);
        Check.due("held(0, 0)", x.held(0, 0), 2);
        Check.due("out four", x.outMany(), 4);
        x.comes(0, 2);
        x.comes(1, 1);
        Check.due("one lies, one is taken", x.who(2), 1);
        Check.due("it lies", x.lies(99, 0), 2);
        Check.due("different SHEETS", x.held(0, 0), 1);
        Check.due("ready at the first one", x.ready(0), 2);
    }

    private static void asked() {
        WhosePage x = Check.floorOf("j04,0;j12,0;th11,0;th31,1;to00,2;j01,59;");
        Check.due("missing(0)", x.missing(0), 4);
        Check.due("ask(0)", x.ask(0), 10);
        Check.due("missing(1)", x.missing(1), 2);
        Check.due("ask(1)", x.ask(1), 0);
        Check.due("missing(2)", x.missing(2), 0);
        x.comes(0, 9);
        Check.due("missing(1)", x.missing(1), 1);
        Check.due("ask(0)", x.ask(0), 8);
        Check.due("ask(1)", x.ask(1), 0);
        Check.due("OWNER 0 is asked, too", Check.floorOf("j12,0;ta00,9;").ask(1), 1);
        Check.due("all are asked", Check.floorOf("j14,0;th01,0;th21,1;th31,2;").ask(1), 13);
        Check.due("outMany() at once", Check.floorOf("j12,0;ta00,9;").outMany(), 2);
        for (int owner : new int[] {-1, 4, Integer.MIN_VALUE, Integer.MAX_VALUE}) {
            Check.refused(x, "missing(" + owner + ")", () -> x.missing(owner), -1);
            Check.refused(x, "ask(" + owner + ")", () -> x.ask(owner), -1);
            Check.refused(x, "ready(" + owner + ")", () -> x.ready(owner), -1);
        }
    }

    private static void ready() {
        WhosePage x = Check.floorOf("j03,5;j12,0;j02,30;ta20,6;");
        Check.due("ready(0)", x.ready(0), 31);
        Check.due("ready(1)", x.ready(1), 1);
        Check.due("ready(2)", x.ready(2), -9);
        x.sent(2, 0);
        Check.due("ready(0)", x.ready(0), 7);
        x.machine(4, 3);
        Check.due("ready(0), AGAIN", x.ready(0), 8);
        Check.due("not by MINUTE 99", Check.floorOf("j09,59;".repeat(5)).ready(0), -9);
        WhosePage last = Check.floorOf("j09,59;j09,59;j09,59;j09,59;j15,59;");
        Check.due("in MINUTE 99", last.ready(1), 99);
    }

    private static void mixed() {
        WhosePage x = floor(2, 0, "j02,0;j13,0;j21,0;");
        Check.due("mixed() by turns", x.mixed(), 4);
        x.machine(0, 0);
        Check.due("mixed()", x.mixed(), 2);
        Check.due("mixed() of one job", Check.floorOf("j09,0;").mixed(), 0);
        Check.due("mixed() of two jobs of one", Check.floorOf("j01,0;j01,50;").mixed(), 1);
        WhosePage late = floor(2, 0, "j09,59;".repeat(6));
        Check.due("mixed() till MINUTE 99", late.mixed(), 40);
        late.machine(4, 1);
        Check.due("mixed() AGAIN", late.mixed(), 2);
    }

    private static void byKind() {
        Check.due("no JOBS", new WhosePage().byKind(), 0);
        WhosePage alike = floor(5, 7, "j02,0;j12,0;");
        Check.due("all alike, the first", alike.byKind(), 0);
        Check.due("the machine stays", alike.machine(0, 0), 57);
        WhosePage boss = Check.floorOf("j31,59;j09,59;j09,59;j09,59;j09,59;j09,59;");
        int[] due = {5, 5, 40, 5, 5, 4};
        for (int kind = 0; kind < 6; kind++) {
            boss.machine(kind, 0);
            Check.due("mixed() by KIND " + kind, boss.mixed(), due[kind]);
        }
        Check.due("BOSS mixes least", boss.byKind(), 5);
        boss.machine(1, 1);
        Check.due("STOP as it is: AGAIN mixes least", boss.byKind(), 4);
        boss.machine(4, 9);
        Check.due("AGAIN mixes as little as BOSS", boss.mixed(), 4);
        Check.due("of several the first", boss.byKind(), 4);
        boss.machine(0, 0);
        boss.sent(4, 0);
        Check.due("behind another SENT", boss.byKind(), 0);
    }

    private static void send() {
        WhosePage x = floor(1, 0, "j05,0;j12,1;");
        Check.due("mixed()", x.mixed(), 2);
        Check.due("send(0, 0)", x.send(0, 0), 1);
        Check.due("send(0, 1)", x.send(0, 1), 1);
        Check.due("send(1, 0)", x.send(1, 0), 0);
        Check.due("send(1, 1)", x.send(1, 1), 1);
        Check.due("SENT stays", x.job(0, 2), 0);
        Check.due("SENT stays", x.job(1, 2), 1);
        Check.refused(x, "send(2, 2)", () -> x.send(2, 2), -1);
        Check.refused(x, "send(-1, 0)", () -> x.send(-1, 0), -1);
        Check.refused(x, "send(1, 2)", () -> x.send(1, 2), -2);
        Check.refused(x, "send(1, -1)", () -> x.send(1, -1), -2);
        String full = "j09,59;j09,59;j09,59;j09,59;j09,59;";
        WhosePage last59 = Check.floorOf(full + "j11,7;");
        Check.due("SENT at 59 it never comes", last59.send(5, 0), 59);
        Check.due("SENT at 59 it never comes", last59.send(5, 1), 4);
        WhosePage first59 = Check.floorOf("j11,7;" + full);
        Check.due("there is no MINUTE 60", first59.send(0, 0), 0);
        Check.due("there is no MINUTE 60", first59.send(0, 1), 5);
        WhosePage turns = floor(2, 0, "j09,50;j19,50;");
        Check.due("send by turns", turns.send(0, 0), 0);
        Check.due("send by turns", turns.send(0, 1), 1);
        turns.sent(0, 0);
        Check.due("send by turns", turns.send(1, 0), 9);
        WhosePage last = floor(2, 0, "j05,55;j19,59;j29,46;");
        List<Integer> before = Check.stateOf(last);
        Check.due("send of the last", last.send(0, 0), 0);
        Check.dueList("nothing changes", Check.stateOf(last), before.toArray(new Integer[0]));
    }

    private static void waits() {
        WhosePage x = Check.floorOf("j03,20;j12,0;");
        Check.due("waits(0, 0, 0)", x.waits(0, 0, 0), 22);
        Check.due("waits(0, 10, 5)", x.waits(0, 10, 5), 7);
        Check.due("waits(0, 20, 2)", x.waits(0, 20, 2), 0);
        Check.due("waits(0, 20, 1)", x.waits(0, 20, 1), 1);
        Check.due("waits(0, 99, 30)", x.waits(0, 99, 30), 0);
        Check.due("waits(2, 0, 0)", x.waits(2, 0, 0), -9);
        Check.due("READY in MINUTE 0", Check.floorOf("j01,0;").waits(0, 0, 0), 0);
        Check.due("waits(2, 99, 30)", x.waits(2, 99, 30), -9);
        Check.refused(x, "waits(4, -1, 31)", () -> x.waits(4, -1, 31), -1);
        Check.refused(x, "waits(-1, 0, 0)", () -> x.waits(-1, 0, 0), -1);
        Check.refused(x, "waits(0, -1, 31)", () -> x.waits(0, -1, 31), -4);
        Check.refused(x, "waits(0, 100, -1)", () -> x.waits(0, 100, -1), -4);
        Check.refused(x, "waits(0, 100, 0)", () -> x.waits(0, 100, 0), -6);
        Check.refused(x, "waits(0, 0, 31)", () -> x.waits(0, 0, 31), -6);
    }

    private static void vain() {
        WhosePage x = Check.floorOf("j03,20;j12,0;");
        Check.due("vain(0, 0, 1)", x.vain(0, 0, 1), 22);
        Check.due("vain(0, 0, 11)", x.vain(0, 0, 11), 2);
        Check.due("vain(0, 0, 10)", x.vain(0, 0, 10), 3);
        Check.due("vain(0, 21, 30)", x.vain(0, 21, 30), 1);
        Check.due("vain(0, 22, 1)", x.vain(0, 22, 1), 0);
        Check.due("vain(0, 99, 30)", x.vain(0, 99, 30), 0);
        Check.due("vain(3, 0, 1)", x.vain(3, 0, 1), -9);
        Check.due("READY in MINUTE 0", Check.floorOf("j01,0;").vain(0, 0, 1), 0);
        Check.refused(x, "vain(4, -1, 31)", () -> x.vain(4, -1, 31), -1);
        Check.refused(x, "vain(-1, 0, 1)", () -> x.vain(-1, 0, 1), -1);
        Check.refused(x, "vain(0, -1, 31)", () -> x.vain(0, -1, 31), -4);
        Check.refused(x, "vain(0, 100, 0)", () -> x.vain(0, 100, 0), -4);
        Check.refused(x, "vain(0, 100, 1)", () -> x.vain(0, 100, 1), -6);
        Check.refused(x, "vain(0, 0, 31)", () -> x.vain(0, 0, 31), -6);
    }
}
