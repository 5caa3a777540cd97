import java.util.Arrays;
import java.util.Map;
import java.util.Set;
import java.util.TreeMap;
import java.util.TreeSet;
import java.util.function.ToIntFunction;

/**
 * A call that is taken changes what its sentence names, and no more ("Nothing is promised beyond the
 * answers and state changes described above"): all that count, place and tell answer is looked at
 * before and after it, and what is another answer then is compared, by name, with what is due.
 */
public final class ChronoTrialsChanges {
    private static int wrong = 0;

    public static void main(String[] args) {
        promise2Admit();
        promise3Prize();
        promise4Frost();
        promise5Trial();
        promise6Annul();
        promise9Ask();
        System.out.println(wrong == 0 ? "all changes are as due" : wrong + " changes are not as due");
        if (wrong != 0) {
            System.exit(1);
        }
    }

    /**
     * The BESTS are 300, 310, NONE (it stopped) and NONE (no TRIAL); the RECORD is 300; the SEALS of
     * 1 and 2 are on.
     */
    private static ChronoTrials scene() {
        ChronoTrials x = new ChronoTrials();
        for (int clock = 0; clock < 4; clock++) {
            x.admit();
        }
        x.prize(350);
        x.frost(10);
        x.trial(0, 400, 20);
        x.trial(0, 300, 10);
        x.trial(1, 310, 5);
        x.trial(2, -1, 100);
        x.ask(0, 4, 4, 1, 1);
        x.ask(0, 5, 4, 2, 2);
        return x;
    }

    private static void promise2Admit() {
        changes("admit()", x -> x.admit(), 4,
            "count 0", "place 4", "tell 4 0", "tell 4 2", "tell 4 3", "tell 4 4", "tell 4 5", "tell 4 6");
    }

    private static void promise3Prize() {
        changes("prize(0)", x -> x.prize(0) ? 1 : 0, 1, "count 2");
        changes("prize(-1)", x -> x.prize(-1) ? 1 : 0, 1, "count 2");
        changes("prize(350)", x -> x.prize(350) ? 1 : 0, 1);
    }

    private static void promise4Frost() {
        changes("frost(20)", x -> x.frost(20) ? 1 : 0, 1, "count 3", "tell 0 4");
        changes("frost(100)", x -> x.frost(100) ? 1 : 0, 1, "count 3", "tell 0 4", "tell 1 4");
        changes("frost(10)", x -> x.frost(10) ? 1 : 0, 1);
    }

    private static void promise5Trial() {
        changes("trial(3, 350, 11)", x -> x.trial(3, 350, 11), 6,
            "count 4", "place 2", "place 3", "tell 2 2", "tell 3 0", "tell 3 1", "tell 3 6");
        changes("trial(1, 299, -1)", x -> x.trial(1, 299, -1), 15,
            "count 1", "count 4", "count 6", "place 0", "place 1", "tell 0 2",
            "tell 1 0", "tell 1 1", "tell 1 2", "tell 1 4", "tell 1 5", "tell 1 6");
        changes("trial(2, -1, 100)", x -> x.trial(2, -1, 100), 0, "count 4", "tell 2 0");
        changes("trial(0, 300, 10)", x -> x.trial(0, 300, 10), 3, "count 4", "tell 0 0", "tell 0 4");
    }

    private static void promise6Annul() {
        changes("annul(0)", x -> x.annul(0), 1,
            "count 4", "count 6", "place 0", "place 1", "tell 1 2",
            "tell 0 0", "tell 0 1", "tell 0 2", "tell 0 4", "tell 0 5", "tell 0 6");
        // The SEALS of 1 and 2 are on, and stay so though no TRIAL is left.
        changes("annul(1)", x -> x.annul(1), 0,
            "count 4", "tell 1 0", "tell 1 1", "tell 1 4", "tell 1 6", "tell 2 2", "tell 3 2");
        changes("annul(2)", x -> x.annul(2), 0, "count 4", "tell 2 0");
    }

    private static void promise9Ask() {
        changes("ask(0, 0, 4, 0, 1)", x -> x.ask(0, 0, 4, 0, 1), 3, "count 5", "tell 0 3");
        changes("ask(0, 4, 4, 1, 2)", x -> x.ask(0, 4, 4, 1, 2), 1, "count 5", "tell 1 3");
        changes("ask(0, 4, 4, 1, 1)", x -> x.ask(0, 4, 4, 1, 1), 2);
        changes("ask(1, 0, 0, 1, 0)", x -> x.ask(1, 0, 0, 1, 0), 1);
        changes("ask(1, 0, 1, 1, 0)", x -> x.ask(1, 0, 1, 1, 0), 0);
        changes("ask(0, 1, 2, 0, 1)", x -> x.ask(0, 1, 2, 0, 1), 2);
        changes("ask(0, 0, 3, 0, 1)", x -> x.ask(0, 0, 3, 0, 1), 0);
        changes("ask(0, 0, 5, 0, 1)", x -> x.ask(0, 0, 5, 0, 1), 2);
    }

    // ---- checking

    private static void changes(String call, ToIntFunction<ChronoTrials> called, int answer, String... due) {
        ChronoTrials x = scene();
        Map<String, Integer> before = look(x);
        int got = called.applyAsInt(x);
        if (got != answer) {
            wrong++;
            System.out.println(call + " answered " + got + ", due is " + answer);
        }
        Set<String> changed = new TreeSet<>();
        look(x).forEach((name, now) -> {
            if (!now.equals(before.get(name))) {
                changed.add(name);
            }
        });
        Set<String> wanted = new TreeSet<>(Arrays.asList(due));
        if (!changed.equals(wanted)) {
            wrong++;
            System.out.println(call + " changed " + changed + ", due is " + wanted);
        }
    }

    private static Map<String, Integer> look(ChronoTrials x) {
        Map<String, Integer> seen = new TreeMap<>();
        for (int what = 0; what <= 6; what++) {
            seen.put("count " + what, x.count(what));
        }
        for (int clock = 0; clock < 8; clock++) {
            seen.put("place " + clock, x.place(clock));
            for (int what = 0; what <= 6; what++) {
                seen.put("tell " + clock + " " + what, x.tell(clock, what));
            }
        }
        return seen;
    }
}
