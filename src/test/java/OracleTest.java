import java.util.ArrayList;
import java.util.Collections;
import java.util.List;
import java.util.Random;

/** All promises: runs of calls by a fixed seed, each answer of the class against the oracle's. */
public final class OracleTest {
    private static final int RUNS = 1500;
    private static final int CALLS = 512;
    private static final int METHODS = 33;

    private final Random random;
    private final WhosePage page = new WhosePage();
    private final Oracle oracle = new Oracle();
    private final String name;
    private int calls = 0;

    private OracleTest(int seed) {
        random = new Random(seed);
        name = "run " + seed;
    }

    public static void main(String[] args) {
        for (int seed = 0; seed < RUNS; seed++) {
            new OracleTest(seed).run();
        }
        Check.end();
    }

    private void run() {
        tellFloor(goodFloor());
        while (calls < CALLS) {
            int pick = random.nextInt(60);
            if (pick < METHODS) {
                callAny(pick);
            } else if (pick < 36) {
                tellFloor(random.nextInt(3) == 0 ? spoilt(goodFloor()) : statement());
            } else if (pick < 44) {
                tellSomeRow();
            } else {
                callAny(8 + random.nextInt(19));
            }
        }
    }

    private void same(String call, int got, int want) {
        calls++;
        if (got != want) {
            Check.due(name + " call " + calls + ": " + call, got, want);
        } else {
            Check.due(call, got, want);
        }
    }

    /** Mostly within the least and the greatest, now and then beside them. */
    private int number(int least, int greatest) {
        switch (random.nextInt(24)) {
            case 0:
                return least - 1;
            case 1:
                return greatest + 1;
            case 2:
                return random.nextInt();
            default:
                return least + random.nextInt(greatest - least + 1);
        }
    }

    private String statement() {
        int pick = random.nextInt(9);
        String end = "," + (random.nextInt(4) == 0 ? "0" : "") + random.nextInt(10) + ";";
        if (pick < 4) {
            String late = random.nextInt(3) == 0 ? "," + (10 + random.nextInt(51)) + ";" : end;
            return "j" + random.nextInt(random.nextInt(20) == 0 ? 10 : 4)
                    + (random.nextInt(30) == 0 ? 0 : 1 + random.nextInt(random.nextInt(2) == 0 ? 3 : 9)) + late;
        }
        if (pick < 5) {
            return "m" + "fstoab".charAt(random.nextInt(6)) + random.nextInt(random.nextInt(2) == 0 ? 3 : 10) + ";";
        }
        String late = random.nextInt(3) == 0 ? "," + (10 + random.nextInt(90)) + ";" : end;
        return "t" + "aohndc".charAt(random.nextInt(6)) + random.nextInt(random.nextInt(20) == 0 ? 10 : 4)
                + random.nextInt(10) + late;
    }

    private String goodFloor() {
        StringBuilder letters = new StringBuilder();
        for (int i = random.nextInt(11); i >= 0; i--) {
            letters.append(statement());
        }
        return letters.toString();
    }

    private String spoilt(String letters) {
        int at = random.nextInt(letters.length());
        switch (random.nextInt(4)) {
            case 0:
                return letters.substring(0, at);
            case 1:
                return letters.substring(0, at) + letters.substring(at + 1);
            case 2:
                return letters.substring(0, at) + "jmtfao;,0159 ~".charAt(random.nextInt(14)) + letters.substring(at + 1);
            default:
                return letters.substring(0, at) + letters.charAt(random.nextInt(letters.length())) + letters.substring(at);
        }
    }

    private void tellFloor(String letters) {
        for (int i = 0; i < letters.length() && i < 82; i++) {
            int c = letters.charAt(i);
            same("letter(" + c + ")", page.letter(c), oracle.letter(c));
        }
        callAny(1);
    }

    /** Rows that look like OUT, like the tray, like jobs run together, or like nothing. */
    private void tellSomeRow() {
        same("judge()", page.judge(), oracle.judge());
        List<Integer> numbers = new ArrayList<>();
        switch (random.nextInt(4)) {
            case 0:
                numbers.addAll(oracle.outNow());
                break;
            case 1:
                numbers.addAll(oracle.trayNow(random.nextInt(random.nextInt(2) == 0 ? 15 : 100)));
                break;
            case 2:
                numbers.addAll(runTogether());
                break;
            default:
                for (int i = random.nextInt(21); i > 0; i--) {
                    numbers.add(number(0, 99));
                }
        }
        if (!numbers.isEmpty() && random.nextInt(4) == 0) {
            Collections.swap(numbers, random.nextInt(numbers.size()), random.nextInt(numbers.size()));
        }
        for (int i = 0; i < numbers.size() && i < 22; i++) {
            int v = numbers.get(i);
            same("row(" + v + ")", page.row(v), oracle.row(v));
        }
        for (int method : new int[] {26, 26, 19, 19, 20, 20, 21, 22, 23}) {
            callAny(method);
        }
    }

    private List<Integer> runTogether() {
        List<Integer> numbers = new ArrayList<>();
        int jobs = Math.min(oracle.count(0), 2 + random.nextInt(2));
        int[] done = new int[6];
        for (int left = 400; left > 0; left--) {
            int job = jobs == 0 ? 0 : random.nextInt(jobs);
            if (jobs > 0 && done[job] < oracle.job(job, 1)) {
                done[job]++;
                numbers.add(10 * job + done[job]);
            }
        }
        return numbers;
    }

    private int jobs() {
        return Math.max(0, oracle.count(0) - 1);
    }

    private int takers() {
        return Math.max(0, oracle.count(2) - 1);
    }

    private void callAny(int method) {
        if (method < 8) {
            callTelling(method);
        } else if (method < 19) {
            callDay(method);
        } else if (method < 27) {
            callRow(method);
        } else {
            callRest(method);
        }
    }

    private void callTelling(int method) {
        int job = number(0, jobs());
        int taker = number(0, takers());
        int what = number(0, 3);
        int minute = number(0, random.nextInt(2) == 0 ? 12 : 99);
        switch (method) {
            case 0 -> same("letter(" + minute + ")", page.letter(minute), oracle.letter(minute));
            case 1 -> same("floor()", page.floor(), oracle.floor());
            case 2 -> same("job(" + job + ", " + what + ")", page.job(job, what), oracle.job(job, what));
            case 3 -> same("taker(" + taker + ", " + what + ")", page.taker(taker, what), oracle.taker(taker, what));
            case 4, 5 -> same("sent(" + job + ", " + minute + ")", page.sent(job, minute), oracle.sent(job, minute));
            case 6 -> {
                int kind = number(0, 5);
                int stop = number(0, 9);
                same("machine(" + kind + ", " + stop + ")", page.machine(kind, stop), oracle.machine(kind, stop));
            }
            default -> same("comes(" + taker + ", " + minute + ")", page.comes(taker, minute), oracle.comes(taker, minute));
        }
    }

    private void callDay(int method) {
        int owner = number(0, 3);
        int what = number(0, 1);
        switch (method) {
            case 8 -> {
                int k = number(0, 30);
                same("out(" + k + ", " + what + ")", page.out(k, what), oracle.out(k, what));
            }
            case 9 -> same("outMany()", page.outMany(), oracle.outMany());
            case 10 -> {
                int minute = number(0, random.nextInt(2) == 0 ? 20 : 99);
                int i = number(-1, 10);
                same("lies(" + minute + ", " + i + ")", page.lies(minute, i), oracle.lies(minute, i));
            }
            case 11 -> same("held(" + owner + ", " + what + ")", page.held(owner, what), oracle.held(owner, what));
            case 12 -> {
                int sheet = number(0, 59);
                same("who(" + sheet + ")", page.who(sheet), oracle.who(sheet));
            }
            case 13 -> same("missing(" + owner + ")", page.missing(owner), oracle.missing(owner));
            case 14 -> same("ask(" + owner + ")", page.ask(owner), oracle.ask(owner));
            case 15 -> same("ready(" + owner + ")", page.ready(owner), oracle.ready(owner));
            case 16 -> same("mixed()", page.mixed(), oracle.mixed());
            case 17 -> same("byKind()", page.byKind(), oracle.byKind());
            default -> {
                int job = number(0, jobs());
                same("send(" + job + ", " + what + ")", page.send(job, what), oracle.send(job, what));
            }
        }
    }

    private void callRow(int method) {
        int one = number(0, jobs());
        int other = number(0, jobs());
        int third = number(0, jobs());
        int owner = number(0, 3);
        int minute = number(0, 99);
        switch (method) {
            case 19 -> same("two(" + one + ", " + other + ")", page.two(one, other), oracle.two(one, other));
            case 20 -> same("three(" + one + ", " + other + ", " + third + ")",
                    page.three(one, other, third), oracle.three(one, other, third));
            case 21 -> same("parts()", page.parts(), oracle.parts());
            case 22 -> same("lacks(" + one + ")", page.lacks(one), oracle.lacks(one));
            case 23 -> {
                int places = number(2, 9);
                same("laps(" + places + ")", page.laps(places), oracle.laps(places));
            }
            case 24 -> {
                int way = number(0, 30);
                same("waits(" + owner + ", " + minute + ", " + way + ")",
                        page.waits(owner, minute, way), oracle.waits(owner, minute, way));
            }
            case 25 -> {
                int each = number(1, 30);
                same("vain(" + owner + ", " + minute + ", " + each + ")",
                        page.vain(owner, minute, each), oracle.vain(owner, minute, each));
            }
            default -> {
                int what = number(0, 1);
                same("seen(" + what + ")", page.seen(what), oracle.seen(what));
            }
        }
    }

    private void callRest(int method) {
        switch (method) {
            case 27 -> {
                int v = number(0, 99);
                same("row(" + v + ")", page.row(v), oracle.row(v));
            }
            case 28 -> same("judge()", page.judge(), oracle.judge());
            case 29 -> {
                int n = number(1, 20);
                int z = random.nextInt();
                same("lots(" + n + ", " + z + ")", page.lots(n, z), oracle.lots(n, z));
            }
            case 30 -> same("image()", page.image(), oracle.image());
            case 31 -> same("on()", page.on(), oracle.on());
            default -> {
                int what = number(0, 16);
                same("count(" + what + ")", page.count(what), oracle.count(what));
            }
        }
    }
}
