import java.util.ArrayList;
import java.util.Collections;
import java.util.Comparator;
import java.util.HashMap;
import java.util.HashSet;
import java.util.List;
import java.util.Map;
import java.util.Set;
import java.util.TreeMap;
import java.util.regex.Matcher;
import java.util.regex.Pattern;

/**
 * The document said once more, slowly and by other means than the class uses (regular expressions,
 * sorted lists, trying all ways), so that a slip in one shows against the other.
 */
final class Oracle {
    private static final Pattern STATEMENT =
            Pattern.compile("j(\\d)(\\d),(\\d\\d?);|m([fstoab])(\\d);|t([aohndc])(\\d)(\\d),(\\d\\d?);");
    private static final Pattern FLOOR = Pattern.compile("(?:" + STATEMENT.pattern() + ")+");

    record Job(int number, int owner, int sheets, int sent) { }

    record Taker(char kind, int owner, int figure, int minute) { }

    record Told(List<Job> jobs, List<Taker> takers, char kind, int stop) {
        Told withSent(int job, int minute) {
            List<Job> changed = new ArrayList<>(jobs);
            Job was = jobs.get(job);
            changed.set(job, new Job(was.number, was.owner, was.sheets, minute));
            return new Told(changed, takers, kind, stop);
        }

        Told withMachine(char other, int otherStop) {
            return new Told(jobs, takers, other, otherStop);
        }
    }

    private Told told = new Told(List.of(), List.of(), 'f', 0);
    private Told image = null;
    private final StringBuilder text = new StringBuilder();
    private final List<Integer> row = new ArrayList<>();
    private final Map<Integer, Integer> refusals = new HashMap<>();

    private int refuse(int code) {
        refusals.merge(code, 1, Integer::sum);
        return code;
    }

    // ---- the DAY

    static final class Day {
        final List<Integer> out = new ArrayList<>();
        final List<Integer> minutes = new ArrayList<>();
        /** Behind each MINUTE, from the top. */
        final List<List<Integer>> trays = new ArrayList<>();
        final Map<Integer, Integer> has = new HashMap<>();

        Day(Told told) {
            Map<Integer, Integer> next = new HashMap<>();
            List<Integer> tray = new ArrayList<>();
            int fresh = 0;
            boolean again = false;
            for (int minute = 0; minute < 100; minute++) {
                Integer sheet = null;
                if (again) {
                    sheet = out.get(out.size() - 1);
                    again = false;
                } else {
                    Job job = choose(told, next, minute);
                    if (job != null) {
                        int number = next.merge(job.number, 1, Integer::sum);
                        sheet = 10 * job.number + number;
                        fresh++;
                        again = told.kind == 'a' && told.stop > 0 && fresh % told.stop == 0;
                    }
                }
                if (sheet != null) {
                    out.add(sheet);
                    minutes.add(minute);
                    tray.add(told.kind == 'o' ? tray.size() : 0, sheet);
                }
                for (Taker taker : told.takers) {
                    if (taker.minute == minute) {
                        take(told, taker, tray);
                    }
                }
                trays.add(new ArrayList<>(tray));
            }
        }

        private Job choose(Told told, Map<Integer, Integer> next, int minute) {
            List<Job> waiting = new ArrayList<>();
            for (Job job : told.jobs) {
                if (job.sent <= minute && next.getOrDefault(job.number, 0) < job.sheets) {
                    waiting.add(job);
                }
            }
            if (waiting.isEmpty()) {
                return null;
            }
            Comparator<Job> first = Comparator.comparingInt(Job::sent).thenComparingInt(Job::number);
            Comparator<Job> least = Comparator.comparingInt(
                    (Job job) -> job.sheets - next.getOrDefault(job.number, 0)).thenComparing(first);
            switch (told.kind) {
                case 's':
                    return Collections.min(waiting, least);
                case 'b':
                    return Collections.min(waiting, Comparator.comparingInt(Job::owner).thenComparing(least));
                case 't':
                    int latest = out.isEmpty() ? -1 : out.get(out.size() - 1) / 10;
                    for (Job job : waiting) {
                        if (job.number > latest) {
                            return job;
                        }
                    }
                    return waiting.get(0);
                default:
                    return Collections.min(waiting, first);
            }
        }

        private void take(Told told, Taker taker, List<Integer> tray) {
            Set<Integer> lying = new HashSet<>(tray);
            Set<Integer> his = new HashSet<>();
            Set<Integer> whole = new HashSet<>();
            for (Job job : told.jobs) {
                if (job.owner == taker.owner) {
                    his.add(job.number);
                    boolean all = true;
                    for (int number = 1; number <= job.sheets; number++) {
                        all &= lying.contains(10 * job.number + number);
                    }
                    if (all) {
                        whole.add(job.number);
                    }
                }
            }
            List<Integer> taken = new ArrayList<>();
            int size = tray.size();
            switch (taker.kind) {
                case 'a' -> taken.addAll(tray);
                case 'h' -> taken.addAll(tray.subList(0, Math.min(taker.figure, size)));
                case 'd' -> taken.addAll(tray.subList(Math.max(0, size - taker.figure), size));
                case 'o' -> tray.stream().filter(s -> his.contains(s / 10)).forEach(taken::add);
                case 'c' -> tray.stream().filter(s -> whole.contains(s / 10)).forEach(taken::add);
                default -> tray.stream().filter(s -> !whole.isEmpty() && his.contains(s / 10)).forEach(taken::add);
            }
            if (taker.kind == 'h') {
                tray.subList(0, taken.size()).clear();
            } else if (taker.kind == 'd') {
                tray.subList(size - taken.size(), size).clear();
            } else {
                tray.removeAll(taken);
            }
            for (int sheet : taken) {
                has.put(sheet, taker.owner);
            }
        }

        int mixed() {
            int many = 0;
            for (int k = 1; k < out.size(); k++) {
                many += out.get(k) / 10 != out.get(k - 1) / 10 ? 1 : 0;
            }
            return many;
        }
    }

    private List<Integer> sheetsOf(int owner) {
        List<Integer> sheets = new ArrayList<>();
        for (Job job : told.jobs) {
            for (int number = 1; number <= job.sheets && job.owner == owner; number++) {
                sheets.add(10 * job.number + number);
            }
        }
        return sheets;
    }

    private int readyOf(int owner) {
        Day day = new Day(told);
        int last = -9;
        for (int sheet : sheetsOf(owner)) {
            int at = day.out.indexOf(sheet);
            if (at < 0) {
                return -9;
            }
            last = Math.max(last, day.minutes.get(at));
        }
        return last;
    }

    // ---- the calls

    int letter(int c) {
        if (c < 0) {
            return refuse(-4);
        }
        if (c > 255 || text.length() == 80) {
            return refuse(-6);
        }
        text.append((char) c);
        return text.length();
    }

    int floor() {
        String letters = text.toString();
        text.setLength(0);
        for (int end = 0; end <= letters.length(); end++) {
            Matcher ahead = FLOOR.matcher(letters.substring(0, end));
            if (!ahead.matches() && !ahead.hitEnd()) {
                return -1000 - (end - 1);
            }
        }
        if (!FLOOR.matcher(letters).matches()) {
            return -1000 - letters.length();
        }
        List<Job> jobs = new ArrayList<>(told.jobs);
        List<Taker> takers = new ArrayList<>(told.takers);
        char kind = told.kind;
        int stop = told.stop;
        int statements = 0;
        Matcher each = STATEMENT.matcher(letters);
        while (each.find()) {
            statements++;
            boolean good = true;
            if (each.group(1) != null) {
                Job job = new Job(jobs.size(), digits(each, 1), digits(each, 2), digits(each, 3));
                good = job.owner <= 3 && job.sheets >= 1 && job.sent <= 59 && jobs.size() < 6;
                jobs.add(job);
            } else if (each.group(4) != null) {
                kind = each.group(4).charAt(0);
                stop = digits(each, 5);
            } else {
                Taker taker = new Taker(each.group(6).charAt(0), digits(each, 7), digits(each, 8), digits(each, 9));
                good = taker.owner <= 3 && takers.size() < 6;
                takers.add(taker);
            }
            if (!good) {
                return -2000 - each.start();
            }
        }
        told = new Told(jobs, takers, kind, stop);
        return statements;
    }

    private static int digits(Matcher each, int group) {
        return Integer.parseInt(each.group(group));
    }

    private boolean noJob(int job) {
        return job < 0 || job >= told.jobs.size();
    }

    private boolean noTaker(int taker) {
        return taker < 0 || taker >= told.takers.size();
    }

    private static boolean noOwner(int owner) {
        return owner < 0 || owner > 3;
    }

    int job(int job, int what) {
        if (noJob(job)) {
            return refuse(-1);
        }
        Job of = told.jobs.get(job);
        return what == 0 ? of.owner : what == 1 ? of.sheets : what == 2 ? of.sent : refuse(-2);
    }

    int taker(int taker, int what) {
        if (noTaker(taker)) {
            return refuse(-1);
        }
        Taker of = told.takers.get(taker);
        return what == 0 ? "aohndc".indexOf(of.kind)
                : what == 1 ? of.owner : what == 2 ? of.figure : what == 3 ? of.minute : refuse(-2);
    }

    int sent(int job, int minute) {
        if (noJob(job)) {
            return refuse(-1);
        }
        if (minute < 0 || minute > 59) {
            return refuse(minute < 0 ? -4 : -6);
        }
        int was = told.jobs.get(job).sent;
        told = told.withSent(job, minute);
        return was;
    }

    int machine(int kind, int stop) {
        if (kind < 0 || kind > 5) {
            return refuse(-2);
        }
        if (stop < 0 || stop > 9) {
            return refuse(stop < 0 ? -4 : -6);
        }
        int was = 10 * "fstoab".indexOf(told.kind) + told.stop;
        told = told.withMachine("fstoab".charAt(kind), stop);
        return was;
    }

    int comes(int taker, int minute) {
        if (noTaker(taker)) {
            return refuse(-1);
        }
        if (minute < 0 || minute > 99) {
            return refuse(minute < 0 ? -4 : -6);
        }
        List<Taker> takers = new ArrayList<>(told.takers);
        Taker was = takers.get(taker);
        takers.set(taker, new Taker(was.kind, was.owner, was.figure, minute));
        told = new Told(told.jobs, takers, told.kind, told.stop);
        return was.minute;
    }

    int out(int k, int what) {
        if (k < 0) {
            return refuse(-4);
        }
        if (what != 0 && what != 1) {
            return refuse(-2);
        }
        Day day = new Day(told);
        List<Integer> asked = what == 0 ? day.out : day.minutes;
        return k < asked.size() ? asked.get(k) : -9;
    }

    int outMany() {
        return new Day(told).out.size();
    }

    int lies(int minute, int i) {
        if (minute < 0 || i < -1) {
            return refuse(-4);
        }
        if (minute > 99) {
            return refuse(-6);
        }
        List<Integer> tray = new Day(told).trays.get(minute);
        return i == -1 ? tray.size() : i < tray.size() ? tray.get(i) : -9;
    }

    int held(int owner, int what) {
        if (noOwner(owner)) {
            return refuse(-1);
        }
        if (what != 0 && what != 1) {
            return refuse(-2);
        }
        List<Integer> his = new ArrayList<>();
        new Day(told).has.forEach((sheet, by) -> {
            if (by == owner) {
                his.add(sheet);
            }
        });
        int all = his.size();
        his.retainAll(sheetsOf(owner));
        return what == 0 ? his.size() : all - his.size();
    }

    int who(int sheet) {
        boolean known = false;
        for (int owner = 0; owner < 4; owner++) {
            known |= sheetsOf(owner).contains(sheet);
        }
        if (!known) {
            return refuse(-1);
        }
        Day day = new Day(told);
        return !day.out.contains(sheet) ? -8 : day.has.getOrDefault(sheet, -9);
    }

    int missing(int owner) {
        if (noOwner(owner)) {
            return refuse(-1);
        }
        Day day = new Day(told);
        return (int) sheetsOf(owner).stream().filter(s -> day.has.getOrDefault(s, -1) != owner).count();
    }

    int ask(int owner) {
        if (noOwner(owner)) {
            return refuse(-1);
        }
        Day day = new Day(told);
        Set<Integer> others = new HashSet<>();
        for (int sheet : sheetsOf(owner)) {
            if (day.has.containsKey(sheet) && day.has.get(sheet) != owner) {
                others.add(day.has.get(sheet));
            }
        }
        return others.stream().mapToInt(by -> 1 << by).sum();
    }

    int ready(int owner) {
        return noOwner(owner) ? refuse(-1) : readyOf(owner);
    }

    int mixed() {
        return new Day(told).mixed();
    }

    int byKind() {
        TreeMap<Integer, Integer> kinds = new TreeMap<>();
        for (int kind = 5; kind >= 0; kind--) {
            kinds.put(new Day(told.withMachine("fstoab".charAt(kind), told.stop)).mixed(), kind);
        }
        return kinds.firstEntry().getValue();
    }

    int send(int job, int what) {
        if (noJob(job)) {
            return refuse(-1);
        }
        if (what != 0 && what != 1) {
            return refuse(-2);
        }
        TreeMap<Integer, Integer> minutes = new TreeMap<>();
        for (int minute = 59; minute >= 0; minute--) {
            minutes.put(new Day(told.withSent(job, minute)).mixed(), minute);
        }
        return what == 0 ? minutes.firstEntry().getValue() : minutes.firstKey();
    }

    private int ways(int at, int[] done, int[] all) {
        if (at == row.size()) {
            return java.util.Arrays.equals(done, all) ? 1 : 0;
        }
        int sum = 0;
        for (int i = 0; i < done.length; i++) {
            if (done[i] < all[i] && row.get(at) % 10 == done[i] + 1) {
                done[i]++;
                sum += ways(at + 1, done, all);
                done[i]--;
            }
        }
        return sum;
    }

    int two(int one, int other) {
        if (noJob(one) || noJob(other) || one == other) {
            return refuse(-1);
        }
        return ways(0, new int[2], new int[] {told.jobs.get(one).sheets, told.jobs.get(other).sheets});
    }

    int three(int one, int other, int third) {
        if (noJob(one) || noJob(other) || noJob(third) || one == other || one == third || other == third) {
            return refuse(-1);
        }
        return ways(0, new int[3], new int[] {told.jobs.get(one).sheets, told.jobs.get(other).sheets,
                told.jobs.get(third).sheets});
    }

    /** Each digit goes behind the greatest one that it may follow. */
    int parts() {
        List<Integer> ends = new ArrayList<>();
        for (int v : row) {
            int best = -1;
            for (int i = 0; i < ends.size(); i++) {
                if (ends.get(i) < v % 10 && (best < 0 || ends.get(i) > ends.get(best))) {
                    best = i;
                }
            }
            if (best < 0) {
                ends.add(v % 10);
            } else {
                ends.set(best, v % 10);
            }
        }
        return ends.size();
    }

    int lacks(int job) {
        if (noJob(job)) {
            return refuse(-1);
        }
        int bits = 0;
        for (int number = 1; number <= told.jobs.get(job).sheets; number++) {
            bits += row.contains(10 * job + number) ? 0 : 1 << number;
        }
        return bits;
    }

    int laps(int places) {
        if (places < 2 || places > 9) {
            return refuse(places < 2 ? -4 : -6);
        }
        List<Integer> unlike = new ArrayList<>(new HashSet<>(row));
        Collections.sort(unlike);
        int runs = unlike.isEmpty() ? 0 : 1;
        for (int i = 1; i < unlike.size(); i++) {
            runs += row.indexOf(unlike.get(i)) < row.indexOf(unlike.get(i - 1)) ? 1 : 0;
        }
        int k = 0;
        while (Math.pow(places, k) < runs) {
            k++;
        }
        return k;
    }

    int waits(int owner, int minute, int way) {
        if (noOwner(owner)) {
            return refuse(-1);
        }
        if (minute < 0 || way < 0) {
            return refuse(-4);
        }
        if (minute > 99 || way > 30) {
            return refuse(-6);
        }
        int ready = readyOf(owner);
        return ready == -9 ? -9 : minute + way >= ready ? 0 : ready - (minute + way);
    }

    int vain(int owner, int minute, int each) {
        if (noOwner(owner)) {
            return refuse(-1);
        }
        if (minute < 0 || each < 1) {
            return refuse(-4);
        }
        if (minute > 99 || each > 30) {
            return refuse(-6);
        }
        int ready = readyOf(owner);
        return ready == -9 ? -9 : minute >= ready ? 0 : (ready - minute + each - 1) / each;
    }

    int seen(int what) {
        if (what != 0 && what != 1) {
            return refuse(-2);
        }
        List<List<Integer>> trays = new Day(told).trays;
        if (what == 0) {
            return Collections.frequency(trays, row);
        }
        return trays.contains(row) ? trays.indexOf(row) : -9;
    }

    int row(int v) {
        if (v < 0) {
            return refuse(-4);
        }
        if (v > 99 || row.size() == 20) {
            return refuse(-6);
        }
        row.add(v);
        return row.size();
    }

    int judge() {
        List<Integer> out = new Day(told).out;
        int answer = -9;
        for (int i = row.size() - 1; i >= 0; i--) {
            if (i >= out.size() || !out.get(i).equals(row.get(i))) {
                answer = i;
            }
        }
        row.clear();
        return answer;
    }

    int lots(int n, int z) {
        if (n < 1 || n > 20) {
            return refuse(n < 1 ? -4 : -6);
        }
        int sum = 0;
        long seed = z;
        for (int i = 0; i < n; i++) {
            Told day = told;
            for (int job = 0; job < told.jobs.size(); job++) {
                seed = (int) (seed * 1664525L + 1013904223L);
                long unsigned = seed < 0 ? seed + 2147483648L : seed;
                day = day.withSent(job, (int) (unsigned / 256 % 60));
            }
            sum += new Day(day).mixed();
        }
        return sum;
    }

    int image() {
        image = told;
        return told.jobs.size();
    }

    int on() {
        if (image == null) {
            return refuse(-3);
        }
        told = image;
        return told.jobs.size();
    }

    int count(int what) {
        if (what >= 11 && what <= 16) {
            return refusals.getOrDefault(10 - what, 0);
        }
        return switch (what) {
            case 0 -> told.jobs.size();
            case 1 -> told.jobs.stream().mapToInt(Job::sheets).sum();
            case 2 -> told.takers.size();
            case 3 -> "fstoab".indexOf(told.kind);
            case 4 -> told.stop;
            case 5 -> row.size();
            case 6 -> text.length();
            default -> -9;
        };
    }

    /** OUT as it comes now, for rows that are to look like it. */
    List<Integer> outNow() {
        return new Day(told).out;
    }

    /** What lies behind a MINUTE, from the top, for rows that are to look like it. */
    List<Integer> trayNow(int minute) {
        return new Day(told).trays.get(minute);
    }
}
