import java.util.ArrayList;
import java.util.List;
import java.util.function.Supplier;
import java.util.function.ToIntFunction;

/**
 * The REFUSALS of every call: the least and the greatest number that is taken, those just beside
 * them, the ends of int, and which REFUSAL is told where two fit. Two objects are told the same, one
 * of them is asked the refused call: from then on both answer alike, but for the count of it.
 */
public final class RefusalTest {
    private static final int LOWEST = Integer.MIN_VALUE;
    private static final int HIGHEST = Integer.MAX_VALUE;
    private static final int NOBODY = -1;
    private static final int OTHER = -2;
    private static final int STATE = -3;
    private static final int BELOW = -4;
    private static final int ROOM = -6;
    private static final int[] NO_ZERO_OR_ONE = {LOWEST, -1, 2, 3, HIGHEST};

    private final Supplier<WhosePage> world;
    private final String name;
    private final int jobs;
    private final int takers;

    private RefusalTest(String name, Supplier<WhosePage> world) {
        this.name = name;
        this.world = world;
        this.jobs = world.get().count(0);
        this.takers = world.get().count(2);
    }

    public static void main(String[] args) {
        Check.said("REFUSALS: the first that fits in the order in which it tells them");
        new RefusalTest("nothing told", WhosePage::new).all();
        new RefusalTest("something told", RefusalTest::something).all();
        new RefusalTest("full", RefusalTest::full).all();
        Check.said("-6 ROOM: no room");
        new RefusalTest("full", RefusalTest::full).noRoom();
        Check.said("-3 STATE: it is not as it must be (on() without THE IMAGE)");
        new RefusalTest("nothing told", WhosePage::new).refused("on()", WhosePage::on, STATE);
        Check.said("the least and the greatest are taken");
        for (Supplier<WhosePage> of : List.<Supplier<WhosePage>>of(RefusalTest::something, RefusalTest::full)) {
            taken(of);
        }
        neverRefused();
        Check.end();
    }

    private static WhosePage something() {
        WhosePage x = Check.floorOf("j12,5;mo2;th03,9;");
        x.image();
        Check.tell(x, "j03,0;j01,7;mb1;to00,7;");
        Check.tellRow(x, 1, 11, 2, 12, 13);
        x.letter('j');
        x.letter('1');
        return x;
    }

    private static WhosePage full() {
        WhosePage x = Check.floorOf("j09,59;ta00,3;j19,0;th29,6;j29,5;td39,9;mt3;");
        x.image();
        Check.tell(x, "j35,2;j01,4;to00,50;tn10,60;j02,7;tc20,70;ma1;");
        for (int i = 0; i < 20; i++) {
            x.row((7 * i + 1) % 100);
        }
        for (int i = 0; i < 80; i++) {
            x.letter("mf0;".charAt(i % 4));
        }
        return x;
    }

    /** One object is asked the refused call, its twin is not. */
    private void refused(String call, ToIntFunction<WhosePage> asking, int code) {
        WhosePage asked = world.get();
        WhosePage twin = world.get();
        Check.due(name + ": " + call, asking.applyAsInt(asked), code);
        for (int refusal = -1; refusal >= -6; refusal--) {
            Check.due(name + ": count(" + (10 - refusal) + ") behind " + call,
                    asked.count(10 - refusal), twin.count(10 - refusal) + (refusal == code ? 1 : 0));
        }
        Check.dueList(name + ": all behind " + call, allOf(asked), allOf(twin).toArray(new Integer[0]));
    }

    /** What is told, the ROW, the letters and THE IMAGE, by calls that use them up. */
    private static List<Integer> allOf(WhosePage x) {
        List<Integer> all = Check.stateOf(x);
        all.add(x.outMany());
        all.add(x.mixed());
        all.add(x.lies(99, -1));
        all.add(x.seen(0));
        for (int owner = 0; owner < 4; owner++) {
            all.add(x.held(owner, 0));
            all.add(x.missing(owner));
        }
        all.add(x.judge());
        x.letter('0');
        all.add(x.floor());
        all.addAll(Check.stateOf(x));
        all.add(x.on());
        all.addAll(Check.stateOf(x));
        return all;
    }

    private void all() {
        letters();
        told();
        machine();
        outAndLies();
        owners();
        sheets();
        jobsOfTheRow();
        waitsAndVain();
        rest();
    }

    private int[] noJobs() {
        return new int[] {LOWEST, -1, jobs, jobs + 1, 6, HIGHEST};
    }

    private int[] noTakers() {
        return new int[] {LOWEST, -1, takers, takers + 1, 6, HIGHEST};
    }

    private static int[] noOwners() {
        return new int[] {LOWEST, -1, 4, 5, HIGHEST};
    }

    private void letters() {
        for (int c : new int[] {LOWEST, -2, -1}) {
            refused("letter(" + c + ")", x -> x.letter(c), BELOW);
        }
        for (int c : new int[] {256, 257, 65536 + 'j', HIGHEST}) {
            refused("letter(" + c + ")", x -> x.letter(c), ROOM);
        }
    }

    private void told() {
        for (int job : noJobs()) {
            for (int other : new int[] {LOWEST, -1, 0, 2, 3, 59, 60, HIGHEST}) {
                refused("job(" + job + ", " + other + ")", x -> x.job(job, other), NOBODY);
                refused("sent(" + job + ", " + other + ")", x -> x.sent(job, other), NOBODY);
            }
        }
        for (int taker : noTakers()) {
            for (int other : new int[] {LOWEST, -1, 0, 3, 4, 99, 100, HIGHEST}) {
                refused("taker(" + taker + ", " + other + ")", x -> x.taker(taker, other), NOBODY);
                refused("comes(" + taker + ", " + other + ")", x -> x.comes(taker, other), NOBODY);
            }
        }
        for (int job = 0; job < jobs; job += Math.max(1, jobs - 1)) {
            int of = job;
            for (int what : new int[] {LOWEST, -1, 3, 4, HIGHEST}) {
                refused("job(" + of + ", " + what + ")", x -> x.job(of, what), OTHER);
            }
            for (int minute : new int[] {LOWEST, -1, 60, 61, HIGHEST}) {
                refused("sent(" + of + ", " + minute + ")", x -> x.sent(of, minute), minute < 0 ? BELOW : ROOM);
            }
        }
        for (int taker = 0; taker < takers; taker += Math.max(1, takers - 1)) {
            int of = taker;
            for (int what : new int[] {LOWEST, -1, 4, 5, HIGHEST}) {
                refused("taker(" + of + ", " + what + ")", x -> x.taker(of, what), OTHER);
            }
            for (int minute : new int[] {LOWEST, -1, 100, 101, HIGHEST}) {
                refused("comes(" + of + ", " + minute + ")", x -> x.comes(of, minute), minute < 0 ? BELOW : ROOM);
            }
        }
    }

    private void machine() {
        for (int kind : new int[] {LOWEST, -1, 6, 7, HIGHEST}) {
            for (int stop : new int[] {LOWEST, -1, 0, 9, 10, HIGHEST}) {
                refused("machine(" + kind + ", " + stop + ")", x -> x.machine(kind, stop), OTHER);
            }
        }
        for (int kind : new int[] {0, 5}) {
            for (int stop : new int[] {LOWEST, -1, 10, 11, HIGHEST}) {
                refused("machine(" + kind + ", " + stop + ")", x -> x.machine(kind, stop), stop < 0 ? BELOW : ROOM);
            }
        }
    }

    private void outAndLies() {
        for (int k : new int[] {LOWEST, -1}) {
            for (int what : new int[] {LOWEST, -1, 0, 1, 2, HIGHEST}) {
                refused("out(" + k + ", " + what + ")", x -> x.out(k, what), BELOW);
            }
        }
        for (int k : new int[] {0, 1, 99, 100, HIGHEST}) {
            for (int what : NO_ZERO_OR_ONE) {
                refused("out(" + k + ", " + what + ")", x -> x.out(k, what), OTHER);
            }
        }
        for (int minute : new int[] {LOWEST, -1}) {
            for (int i : new int[] {LOWEST, -2, -1, 0, HIGHEST}) {
                refused("lies(" + minute + ", " + i + ")", x -> x.lies(minute, i), BELOW);
            }
        }
        for (int minute : new int[] {0, 99, 100, HIGHEST}) {
            for (int i : new int[] {LOWEST, -3, -2}) {
                refused("lies(" + minute + ", " + i + ")", x -> x.lies(minute, i), BELOW);
            }
        }
        for (int minute : new int[] {100, 101, HIGHEST}) {
            for (int i : new int[] {-1, 0, HIGHEST}) {
                refused("lies(" + minute + ", " + i + ")", x -> x.lies(minute, i), ROOM);
            }
        }
    }

    private void owners() {
        for (int owner : noOwners()) {
            for (int what : new int[] {LOWEST, -1, 0, 1, 2, HIGHEST}) {
                refused("held(" + owner + ", " + what + ")", x -> x.held(owner, what), NOBODY);
            }
            refused("missing(" + owner + ")", x -> x.missing(owner), NOBODY);
            refused("ask(" + owner + ")", x -> x.ask(owner), NOBODY);
            refused("ready(" + owner + ")", x -> x.ready(owner), NOBODY);
        }
        for (int owner = 0; owner < 4; owner++) {
            int of = owner;
            for (int what : NO_ZERO_OR_ONE) {
                refused("held(" + of + ", " + what + ")", x -> x.held(of, what), OTHER);
            }
        }
    }

    private void sheets() {
        List<Integer> noSheets = new ArrayList<>(List.of(LOWEST, -60, -11, -10, -1, HIGHEST));
        WhosePage of = world.get();
        for (int sheet = 0; sheet <= 100; sheet++) {
            int job = sheet / 10;
            if (job >= jobs || sheet % 10 == 0 || sheet % 10 > of.job(job, 1)) {
                noSheets.add(sheet);
            }
        }
        for (int sheet : noSheets) {
            refused("who(" + sheet + ")", x -> x.who(sheet), NOBODY);
        }
    }

    private void jobsOfTheRow() {
        for (int job : noJobs()) {
            refused("lacks(" + job + ")", x -> x.lacks(job), NOBODY);
            for (int what : new int[] {LOWEST, -1, 0, 1, 2, HIGHEST}) {
                refused("send(" + job + ", " + what + ")", x -> x.send(job, what), NOBODY);
            }
            for (int other : new int[] {0, 1, job}) {
                refused("two(" + job + ", " + other + ")", x -> x.two(job, other), NOBODY);
                refused("two(" + other + ", " + job + ")", x -> x.two(other, job), NOBODY);
                refused("three(" + job + ", 0, 1) .. " + other, x -> x.three(job, other, 1 - other), NOBODY);
                refused("three(0, " + job + ", 1) .. " + other, x -> x.three(other, job, 1 - other), NOBODY);
                refused("three(0, 1, " + job + ") .. " + other, x -> x.three(other, 1 - other, job), NOBODY);
            }
        }
        for (int job = 0; job < jobs; job++) {
            int of = job;
            int next = (job + 1) % jobs;
            refused("two(" + of + ", " + of + ")", x -> x.two(of, of), NOBODY);
            refused("three, the first two alike", x -> x.three(of, of, next), NOBODY);
            refused("three, the outer two alike", x -> x.three(of, next, of), NOBODY);
            refused("three, the last two alike", x -> x.three(next, of, of), NOBODY);
            refused("three, all alike", x -> x.three(of, of, of), NOBODY);
            for (int what : NO_ZERO_OR_ONE) {
                refused("send(" + of + ", " + what + ")", x -> x.send(of, what), OTHER);
            }
        }
    }

    private void waitsAndVain() {
        int[] minutes = {LOWEST, -1, 0, 99, 100, HIGHEST};
        int[] steps = {LOWEST, -1, 0, 1, 30, 31, HIGHEST};
        for (int minute : minutes) {
            for (int step : steps) {
                String numbers = minute + ", " + step + ")";
                for (int owner : new int[] {-1, 4, LOWEST, HIGHEST}) {
                    refused("waits(" + owner + ", " + numbers, x -> x.waits(owner, minute, step), NOBODY);
                    refused("vain(" + owner + ", " + numbers, x -> x.vain(owner, minute, step), NOBODY);
                }
                boolean above = minute > 99 || step > 30;
                if (minute < 0 || step < 0) {
                    refused("waits(0, " + numbers, x -> x.waits(0, minute, step), BELOW);
                } else if (above) {
                    refused("waits(3, " + numbers, x -> x.waits(3, minute, step), ROOM);
                }
                if (minute < 0 || step < 1) {
                    refused("vain(0, " + numbers, x -> x.vain(0, minute, step), BELOW);
                } else if (above) {
                    refused("vain(3, " + numbers, x -> x.vain(3, minute, step), ROOM);
                }
            }
        }
    }

    private void rest() {
        for (int what : NO_ZERO_OR_ONE) {
            refused("seen(" + what + ")", x -> x.seen(what), OTHER);
        }
        for (int places : new int[] {LOWEST, -2, 0, 1}) {
            refused("laps(" + places + ")", x -> x.laps(places), BELOW);
        }
        for (int places : new int[] {10, 11, HIGHEST}) {
            refused("laps(" + places + ")", x -> x.laps(places), ROOM);
        }
        for (int v : new int[] {LOWEST, -1}) {
            refused("row(" + v + ")", x -> x.row(v), BELOW);
        }
        for (int v : new int[] {100, 101, HIGHEST}) {
            refused("row(" + v + ")", x -> x.row(v), ROOM);
        }
        for (int n : new int[] {LOWEST, -1, 0}) {
            refused("lots(" + n + ", 7)", x -> x.lots(n, 7), BELOW);
        }
        for (int n : new int[] {21, 22, HIGHEST}) {
            refused("lots(" + n + ", -7)", x -> x.lots(n, -7), ROOM);
        }
    }

    /** Full: what fits elsewhere has no room; BELOW is told ahead of it. */
    private void noRoom() {
        for (int c : new int[] {0, 'j', 255}) {
            refused("letter 81: " + c, x -> x.letter(c), ROOM);
        }
        for (int v : new int[] {0, 1, 99}) {
            refused("row 21: " + v, x -> x.row(v), ROOM);
        }
        refused("letter 81: -1", x -> x.letter(-1), BELOW);
        refused("letter 81: 256", x -> x.letter(256), ROOM);
        refused("row 21: -1", x -> x.row(-1), BELOW);
        refused("row 21: 100", x -> x.row(100), ROOM);
    }

    private static void taken(Supplier<WhosePage> of) {
        WhosePage x = of.get();
        int before = refusals(x);
        int lastJob = x.count(0) - 1;
        int lastTaker = x.count(2) - 1;
        for (int minute : new int[] {0, 59}) {
            x.sent(0, minute);
            x.sent(lastJob, minute);
            Check.due("job(last, 2)", x.job(lastJob, 2), minute);
        }
        for (int minute : new int[] {0, 99}) {
            x.comes(0, minute);
            x.comes(lastTaker, minute);
            Check.due("taker(last, 3)", x.taker(lastTaker, 3), minute);
        }
        for (int number : new int[] {0, 1}) {
            x.out(0, number);
            x.out(HIGHEST, number);
            x.held(0, number);
            x.held(3, number);
            x.send(0, number);
            x.send(lastJob, number);
            x.seen(number);
        }
        for (int minute : new int[] {0, 99}) {
            x.lies(minute, -1);
            x.lies(minute, 0);
            x.lies(minute, HIGHEST);
            x.waits(0, minute, 0);
            x.waits(3, minute, 30);
            x.vain(0, minute, 1);
            x.vain(3, minute, 30);
        }
        for (int owner : new int[] {0, 3}) {
            x.missing(owner);
            x.ask(owner);
            x.ready(owner);
        }
        for (int job : new int[] {0, lastJob}) {
            x.who(10 * job + 1);
            x.who(10 * job + x.job(job, 1));
            x.lacks(job);
        }
        x.two(0, lastJob);
        x.two(lastJob, 0);
        x.three(0, lastJob, 1);
        x.laps(2);
        x.laps(9);
        x.judge();
        x.row(0);
        x.row(99);
        x.floor();
        x.letter(0);
        x.letter(255);
        x.lots(1, LOWEST);
        x.lots(20, HIGHEST);
        x.machine(0, 0);
        x.machine(5, 9);
        Check.due("machine(0, 0)", x.machine(0, 0), 59);
        Check.due("REFUSALS", refusals(x), before);
    }

    private static int refusals(WhosePage x) {
        int sum = 0;
        for (int what = 11; what <= 16; what++) {
            sum += x.count(what);
        }
        return sum;
    }

    private static void neverRefused() {
        Check.said("-9 for another what (which is no REFUSAL)");
        WhosePage x = new WhosePage();
        for (int what : new int[] {LOWEST, -11, -1, 7, 8, 9, 10, 17, 18, HIGHEST, LOWEST + 10, LOWEST + 21}) {
            Check.due("count(" + what + ")", x.count(what), -9);
        }
        Check.said("the FAULT (nothing is counted)");
        Check.tell(x, "");
        Check.tell(x, "j01,60;");
        Check.due("REFUSALS", refusals(x), 0);
        Check.said("-9 none such");
        x.out(0, 0);
        x.out(HIGHEST, 1);
        x.lies(0, 0);
        x.ready(0);
        x.waits(0, 0, 0);
        x.vain(0, 0, 1);
        x.judge();
        Check.due("REFUSALS", refusals(x), 0);
    }
}
