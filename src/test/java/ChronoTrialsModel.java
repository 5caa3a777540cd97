import java.util.ArrayList;
import java.util.Comparator;
import java.util.List;
import java.util.Random;

/**
 * Long runs of calls, the same ones each time, against a plain model of the document that shares
 * nothing with the class: NONE is null there, and THE ORDER is sorted.
 */
public final class ChronoTrialsModel {
    private static final int RUNS = 3000;
    private static final int CALLS = 512;
    private static final int MOST_TOLD = 20;

    private static int wrong = 0;

    private static final class Clock {
        final int number;
        final List<Integer[]> trials = new ArrayList<>();
        boolean seal = false;

        Clock(int number) {
            this.number = number;
        }

        Integer best() {
            Integer best = null;
            for (Integer[] trial : trials) {
                if (trial[0] != null && (best == null || trial[0] < best)) {
                    best = trial[0];
                }
            }
            return best;
        }

        Integer latestChill() {
            return trials.isEmpty() ? null : trials.get(trials.size() - 1)[1];
        }
    }

    private final List<Clock> clocks = new ArrayList<>();
    private Integer prize = null;
    private Integer record = null;
    private Integer frost = null;

    private static boolean holds(int sign, Integer a, Integer b) {
        if (a == null || b == null) {
            return sign == 5;
        }
        int c = a.compareTo(b);
        return new boolean[] {c < 0, c <= 0, c > 0, c >= 0, c == 0, c != 0}[sign];
    }

    private static boolean outside(int number, int least, int most) {
        return number < least || number > most;
    }

    private static Integer rate(int hundredths) {
        return hundredths == -1 ? null : Integer.valueOf(hundredths);
    }

    private static Integer chill(int tenths) {
        return tenths == 100 ? null : Integer.valueOf(tenths);
    }

    private static int orElse(Integer number, int none) {
        return number == null ? none : number;
    }

    private int admit() {
        if (clocks.size() == 8) {
            return -1;
        }
        clocks.add(new Clock(clocks.size()));
        return clocks.size() - 1;
    }

    private int prize(int hundredths) {
        if (outside(hundredths, -1, 999)) {
            return 0;
        }
        prize = rate(hundredths);
        return 1;
    }

    private int frost(int tenths) {
        if (outside(tenths, -99, 100)) {
            return 0;
        }
        frost = chill(tenths);
        return 1;
    }

    private int trial(int clock, int hundredths, int tenths) {
        if (outside(clock, 0, clocks.size() - 1) || outside(hundredths, -1, 999) || outside(tenths, -99, 100)) {
            return -1;
        }
        Clock c = clocks.get(clock);
        if (c.trials.size() == 6) {
            return -1;
        }
        Integer rate = rate(hundredths);
        boolean cold = holds(1, chill(tenths), frost);
        boolean wins = holds(1, rate, prize);
        boolean better = rate != null && !holds(1, c.best(), rate);
        boolean isRecord = cold && rate != null && !holds(1, record, rate);
        c.trials.add(new Integer[] {rate, chill(tenths)});
        if (isRecord) {
            record = rate;
        }
        return (cold ? 1 : 0) + (wins ? 2 : 0) + (better ? 4 : 0) + (isRecord ? 8 : 0);
    }

    private int annul(int clock) {
        if (outside(clock, 0, clocks.size() - 1) || clocks.get(clock).trials.isEmpty()) {
            return -1;
        }
        List<Integer[]> trials = clocks.get(clock).trials;
        trials.remove(trials.size() - 1);
        return trials.size();
    }

    private List<Clock> order() {
        List<Clock> order = new ArrayList<>(clocks);
        order.sort(Comparator.<Clock>comparingInt(c -> orElse(c.best(), 5000)).thenComparingInt(c -> c.number));
        return order;
    }

    private int place(int k) {
        return outside(k, 0, clocks.size() - 1) ? -1 : order().get(k).number;
    }

    private int tell(int clock, int what) {
        if (outside(clock, 0, clocks.size() - 1)) {
            return -1;
        }
        Clock c = clocks.get(clock);
        switch (what) {
            case 0: return c.trials.size();
            case 1: return orElse(c.best(), -1);
            case 2: return (int) clocks.stream().filter(o -> c.best() == null ? o.best() != null
                : o != c && holds(0, o.best(), c.best())).count();
            case 3: return c.seal ? 1 : 0;
            case 4: return (int) c.trials.stream().filter(t -> holds(1, t[1], frost)).count();
            case 5: return (int) c.trials.stream().takeWhile(t -> holds(2, t[0], c.best())).count();
            case 6: return orElse(c.latestChill(), 100);
            default: return -1;
        }
    }

    private boolean holdsOf(int what, int sign, Clock a, Clock b) {
        return what == 0 ? holds(sign, a.best(), b.best()) : holds(sign, a.latestChill(), b.latestChill());
    }

    private int ask(int what, int sign, int how, int i, int j) {
        int last = clocks.size() - 1;
        if (outside(what, 0, 1) || outside(sign, 0, 5) || outside(i, 0, last) || outside(j, 0, last)) {
            return -1;
        }
        Clock a = clocks.get(i);
        Clock b = clocks.get(j);
        boolean there = holdsOf(what, sign, a, b);
        boolean back = holdsOf(what, sign, b, a);
        switch (how) {
            case 0: return there ? 1 : 0;
            case 1: return there ? 0 : 1;
            case 2: return (int) clocks.stream().skip(i).takeWhile(c -> holdsOf(what, sign, c, b)).count();
            case 3: return there ? i : j;
            case 4:
                a.seal = there;
                return count(5);
            case 5: return there && back ? 1 : there != back ? 2 : 0;
            default: return -1;
        }
    }

    private int count(int what) {
        switch (what) {
            case 0: return clocks.size();
            case 1: return orElse(record, -1);
            case 2: return orElse(prize, -1);
            case 3: return orElse(frost, 100);
            case 4: return clocks.stream().mapToInt(c -> c.trials.size()).sum();
            case 5: return (int) clocks.stream().filter(c -> c.seal).count();
            case 6: return clocks.isEmpty() || order().get(0).best() == null ? -1 : order().get(0).number;
            default: return -1;
        }
    }

    // ---- the runs

    /** A number in the range most often, at its edges and just outside it now and then. */
    private static int near(Random random, int least, int most) {
        int[] edges = {least, most, least - 1, most + 1, Integer.MIN_VALUE, Integer.MAX_VALUE};
        int dice = random.nextInt(24);
        return dice < edges.length ? edges[dice] : least + random.nextInt(most - least + 1);
    }

    // Few values, so that bests and chills are often alike.
    private static int someRate(Random random) {
        return random.nextInt(3) == 0 ? near(random, -1, 999) : random.nextInt(5) - 1;
    }

    private static int someChill(Random random) {
        int few = random.nextInt(5) - 3;
        return random.nextInt(3) == 0 ? near(random, -99, 100) : few == 1 ? 100 : few;
    }

    private static int someClock(Random random, int clocks) {
        return random.nextInt(20) == 0 ? near(random, 0, 8) : random.nextInt(Math.max(1, clocks));
    }

    private static void run(int run) {
        Random random = new Random(run);
        ChronoTrials x = new ChronoTrials();
        ChronoTrialsModel model = new ChronoTrialsModel();
        int ofAdmits = 2 + random.nextInt(30);
        for (int call = 0; call < CALLS && wrong < MOST_TOLD; call++) {
            int kind = random.nextInt(ofAdmits) == 0 ? 0 : 1 + random.nextInt(11);
            oneCall(run, random, x, model, kind);
        }
    }

    private static void oneCall(int run, Random random, ChronoTrials x, ChronoTrialsModel model, int kind) {
        int many = model.clocks.size();
        int c = someClock(random, many);
        int d = someClock(random, many);
        int r = someRate(random);
        int t = someChill(random);
        int what = near(random, 0, 6);
        switch (kind) {
            case 0: due(run, "admit()", x.admit(), model.admit()); break;
            case 1: due(run, "prize(" + r + ")", x.prize(r) ? 1 : 0, model.prize(r)); break;
            case 2: due(run, "frost(" + t + ")", x.frost(t) ? 1 : 0, model.frost(t)); break;
            case 3: case 4: case 5:
                due(run, "trial(" + c + ", " + r + ", " + t + ")", x.trial(c, r, t), model.trial(c, r, t)); break;
            case 6: due(run, "annul(" + c + ")", x.annul(c), model.annul(c)); break;
            case 7: due(run, "place(" + c + ")", x.place(c), model.place(c)); break;
            case 8: due(run, "tell(" + c + ", " + what + ")", x.tell(c, what), model.tell(c, what)); break;
            case 9: due(run, "count(" + what + ")", x.count(what), model.count(what)); break;
            default:
                int of = near(random, 0, 1);
                int sign = near(random, 0, 5);
                int how = near(random, 0, 5);
                due(run, "ask(" + of + ", " + sign + ", " + how + ", " + c + ", " + d + ")",
                    x.ask(of, sign, how, c, d), model.ask(of, sign, how, c, d));
                break;
        }
    }

    private static void due(int run, String call, int got, int want) {
        if (got != want) {
            wrong++;
            System.out.println("run " + run + ": " + call + " answered " + got + ", due is " + want);
        }
    }

    public static void main(String[] args) {
        for (int run = 0; run < RUNS && wrong < MOST_TOLD; run++) {
            run(run);
        }
        System.out.println(wrong == 0 ? "all answers are as due" : wrong + " answers are not as due");
        if (wrong != 0) {
            System.exit(1);
        }
    }
}
