import java.util.ArrayList;
import java.util.List;
import java.util.function.IntSupplier;

/** What the tests share: telling answers that are not as due, and ending with 1 if there was one. */
final class Check {
    private static int wrong = 0;
    private static int asked = 0;
    private static String sentence = "";

    private Check() {
    }

    /** The sentence of the document that the answers from here on are about. */
    static void said(String words) {
        sentence = "\"" + words + "\": ";
    }

    static void due(String call, int got, int want) {
        asked++;
        if (got != want) {
            wrong++;
            System.out.println(sentence + call + " answered " + got + ", due is " + want);
        }
    }

    static void holds(String what, boolean holds) {
        asked++;
        if (!holds) {
            wrong++;
            System.out.println(sentence + "this does not hold: " + what);
        }
    }

    /** Tells all letters; the answer is that of floor(). */
    static int tell(WhosePage x, String letters) {
        for (int i = 0; i < letters.length(); i++) {
            x.letter(letters.charAt(i));
        }
        return x.floor();
    }

    static WhosePage floorOf(String letters) {
        WhosePage x = new WhosePage();
        int answer = tell(x, letters);
        if (answer < 1) {
            due("floor() of " + letters, answer, 1);
        }
        return x;
    }

    static void tellRow(WhosePage x, int... numbers) {
        for (int number : numbers) {
            x.row(number);
        }
    }

    /** All SHEETS of OUT in a row. */
    static List<Integer> outOf(WhosePage x) {
        List<Integer> sheets = new ArrayList<>();
        for (int k = 0; k < x.outMany(); k++) {
            sheets.add(x.out(k, 0));
        }
        return sheets;
    }

    /** What lies behind a MINUTE, from the top. */
    static List<Integer> trayOf(WhosePage x, int minute) {
        List<Integer> sheets = new ArrayList<>();
        for (int i = 0; i < x.lies(minute, -1); i++) {
            sheets.add(x.lies(minute, i));
        }
        return sheets;
    }

    static void dueList(String what, List<Integer> got, Integer... want) {
        asked++;
        if (!got.equals(List.of(want))) {
            wrong++;
            System.out.println(sentence + what + " was " + got + ", due is " + List.of(want));
        }
    }

    /** The call answers the REFUSAL; nothing changes but how many there were of it. */
    static void refused(WhosePage x, String call, IntSupplier asking, int code) {
        List<Integer> before = stateOf(x);
        int[] counts = refusalsOf(x);
        due(call, asking.getAsInt(), code);
        counts[-code - 1]++;
        int[] after = refusalsOf(x);
        for (int i = 0; i < counts.length; i++) {
            due("count(" + (11 + i) + ") behind " + call, after[i], counts[i]);
        }
        dueList("the state behind " + call, stateOf(x), before.toArray(new Integer[0]));
    }

    static int[] refusalsOf(WhosePage x) {
        int[] counts = new int[6];
        for (int i = 0; i < counts.length; i++) {
            counts[i] = x.count(11 + i);
        }
        return counts;
    }

    /** What can be asked of the state without a REFUSAL and without a change. */
    static List<Integer> stateOf(WhosePage x) {
        List<Integer> state = new ArrayList<>();
        for (int what = 0; what <= 6; what++) {
            state.add(x.count(what));
        }
        for (int job = 0; job < x.count(0); job++) {
            for (int what = 0; what < 3; what++) {
                state.add(x.job(job, what));
            }
            state.add(x.lacks(job));
        }
        for (int taker = 0; taker < x.count(2); taker++) {
            for (int what = 0; what < 4; what++) {
                state.add(x.taker(taker, what));
            }
        }
        state.add(x.parts());
        state.add(x.laps(2));
        return state;
    }

    static void end() {
        System.out.println(wrong == 0 ? asked + " answers are as due" : wrong + " of " + asked + " answers are not as due");
        if (wrong != 0) {
            System.exit(1);
        }
    }
}
