import java.util.ArrayList;
import java.util.List;

/**
 * The sentences of the document that say what is REFUSED, one method each: its name says the part of
 * the document, its first line the sentence. Each wrong number is tried in several houses, the ones
 * next to it that are taken are tried too, and "a call that is refused changes nothing" is looked at
 * for each refused call: see refused().
 */
public final class ChronoTrialsRefusals {
    private static final int NONE = -1;
    private static final int MOST_CALLS = 512;
    private static final int LEAST = Integer.MIN_VALUE;
    private static final int MOST = Integer.MAX_VALUE;

    // Numbers that would be taken if they, or 6 or 8 times they, were cut to fewer bits.
    private static final int[] WRAPPED = {
        256, 65536, 65537, 1 << 24, 1 << 28, 1 << 29, 1 << 30, 715827883, -65536, LEAST + 1, MOST - 1,
    };
    private static final int[] NO_RATES = {-2, 1000, LEAST, MOST, -99, -100, 1001, 65535, 65536, -65536, LEAST + 5};
    private static final int[] NO_CHILLS = {-100, 101, LEAST, MOST, -101, 999, 255, 256, 65536, -65536, LEAST + 5};

    private static int wrong = 0;
    private static String sentence = "";
    private static String latestCall = "";

    public static void main(String[] args) {
        termsRefusedChangesNothing();
        promise1NoClocks();
        promise2ThereAreEight();
        promise3FalseForOthers();
        promise4FalseForOthers();
        promise5NoSuchClock();
        promise5SixTrials();
        promise5NoneOfTheseRate();
        promise5NoneOfTheseChill();
        promise5SeveralAtOnce();
        promise6NoSuchClock();
        promise6ItHasNone();
        promise7NoneSuch();
        promise8AnotherWhat();
        promise8NoSuchClock();
        promise9NoSuchWhat();
        promise9NoSuchSign();
        promise9NoSuchHow();
        promise9NoSuchI();
        promise9NoSuchJ();
        promise10AnotherWhat();
        whatOnlyTellsChangesNothing();
        System.out.println(wrong == 0 ? "all answers are as due" : wrong + " answers are not as due");
        if (wrong != 0) {
            System.exit(1);
        }
    }

    // ---- Terms

    private static void termsRefusedChangesNothing() {
        sentence = "Terms: A call that is refused (false or NONE) changes nothing. (all kinds on one object)";
        for (int scene = 0; scene < SCENES; scene++) {
            House h = made(scene);
            List<Integer> before = look(h);
            refusedOfAllKinds(h);
            same(before, look(h));
            House dug = made(scene);
            refusedOfAllKinds(dug);
            same(dig(made(scene)), dig(dug));
        }
    }

    private static void refusedOfAllKinds(House h) {
        due(0, h.prize(-2));
        due(0, h.prize(1000));
        due(0, h.frost(-100));
        due(0, h.frost(101));
        due(NONE, h.trial(8, 0, -99));
        due(NONE, h.trial(-1, 0, -99));
        due(NONE, h.trial(0, 1000, -99));
        due(NONE, h.trial(0, -2, -99));
        due(NONE, h.trial(0, 0, 101));
        due(NONE, h.trial(0, 0, -100));
        due(NONE, h.annul(-1));
        due(NONE, h.annul(8));
        due(NONE, h.place(-1));
        due(NONE, h.place(8));
        due(NONE, h.tell(8, 0));
        due(NONE, h.tell(0, 7));
        due(NONE, h.ask(2, 5, 4, 0, 0));
        due(NONE, h.ask(0, 6, 4, 0, 0));
        due(NONE, h.ask(0, 5, 6, 0, 0));
        due(NONE, h.ask(0, 5, 4, 8, 0));
        due(NONE, h.ask(0, 5, 4, 0, 8));
        due(NONE, h.count(7));
        due(NONE, h.count(-1));
    }

    // ---- Promises 1 to 4

    private static void promise1NoClocks() {
        sentence = "Promise 1: No clocks. (so no clock is such)";
        for (int clock : noClocksOf(0)) {
            refused(EMPTY, NONE, h -> h.trial(clock, 0, 0));
            refused(EMPTY, NONE, h -> h.annul(clock));
            refused(EMPTY, NONE, h -> h.place(clock));
            for (int what = 0; what <= 6; what++) {
                int w = what;
                refused(EMPTY, NONE, h -> h.tell(clock, w));
            }
            for (int how = 0; how <= 5; how++) {
                int w = how;
                refused(EMPTY, NONE, h -> h.ask(0, 5, w, clock, clock));
                refused(EMPTY, NONE, h -> h.ask(1, 4, w, clock, 0));
            }
        }
    }

    private static void promise2ThereAreEight() {
        sentence = "Promise 2: NONE if there are 8.";
        refused(EIGHT, NONE, h -> h.admit());
        refused(FULL, NONE, h -> h.admit());
        House h = new House();
        for (int n = 0; n < 8; n++) {
            due(n, h.admit());
        }
        for (int n = 0; n < 300; n++) {
            due(NONE, h.admit());
        }
        due(8, h.count(0));
        // Nothing frees a place: what is annulled is a TRIAL, not a clock.
        due(4, h.trial(7, 1, 1));
        due(0, h.annul(7));
        due(NONE, h.admit());
    }

    private static void promise3FalseForOthers() {
        sentence = "Promise 3: false for others.";
        for (int scene = 0; scene < SCENES; scene++) {
            for (int rate : NO_RATES) {
                refused(scene, 0, h -> h.prize(rate));
            }
            for (int rate : new int[] {-1, 0, 1, 99, 100, 101, 998, 999}) {
                House h = made(scene);
                due(1, h.prize(rate));
                due(rate, h.count(2));
            }
        }
    }

    private static void promise4FalseForOthers() {
        sentence = "Promise 4: false for others.";
        for (int scene = 0; scene < SCENES; scene++) {
            for (int chill : NO_CHILLS) {
                refused(scene, 0, h -> h.frost(chill));
            }
            for (int chill : new int[] {-99, -98, -2, -1, 0, 1, 98, 99, 100}) {
                House h = made(scene);
                due(1, h.frost(chill));
                due(chill, h.count(3));
            }
        }
    }

    // ---- Promise 5

    private static void promise5NoSuchClock() {
        sentence = "Promise 5: NONE if there is no such clock";
        for (int scene = 0; scene < SCENES; scene++) {
            for (int clock : noClocksOf(clocksIn(scene))) {
                refused(scene, NONE, h -> h.trial(clock, 0, -99));
                refused(scene, NONE, h -> h.trial(clock, -1, 100));
            }
        }
        for (int clock = 0; clock < 8; clock++) {
            due(4, made(EIGHT).trial(clock, 0, 0));
        }
    }

    private static void promise5SixTrials() {
        sentence = "Promise 5: NONE if .. it has 6 TRIALS";
        for (int clock = 0; clock < 8; clock++) {
            int c = clock;
            refused(FULL, NONE, h -> h.trial(c, 0, -99));
            refused(FULL, NONE, h -> h.trial(c, -1, 100));
            House h = made(FULL);
            due(5, h.annul(c));
            due(15, h.trial(c, 0, -99));
            due(NONE, h.trial(c, 0, -99));
            due(6, h.tell(c, 0));
        }
        House h = made(SOME);
        due(3, h.tell(0, 0));
        due(0, h.trial(0, 999, 99));
        due(0, h.trial(0, 999, 99));
        due(0, h.trial(0, 999, 99));
        due(NONE, h.trial(0, 999, 99));
        due(0, h.trial(2, -1, 99));
    }

    private static void promise5NoneOfTheseRate() {
        sentence = "Promise 5: NONE if .. one of the two is none of these (the RATE)";
        for (int rate : NO_RATES) {
            refused(SOME, NONE, h -> h.trial(0, rate, -99));
            refused(SOME, NONE, h -> h.trial(3, rate, 100));
            refused(EIGHT, NONE, h -> h.trial(7, rate, 0));
        }
        for (int rate : new int[] {0, 1, 998, 999}) {
            due(4, made(EIGHT).trial(7, rate, 0));
        }
        due(0, made(EIGHT).trial(7, -1, 0));
    }

    private static void promise5NoneOfTheseChill() {
        sentence = "Promise 5: NONE if .. one of the two is none of these (the CHILL)";
        for (int chill : NO_CHILLS) {
            refused(SOME, NONE, h -> h.trial(0, 0, chill));
            refused(SOME, NONE, h -> h.trial(3, -1, chill));
            refused(EIGHT, NONE, h -> h.trial(7, 999, chill));
        }
        for (int chill : new int[] {-99, -98, -1, 0, 98, 99, 100}) {
            due(4, made(EIGHT).trial(7, 5, chill));
        }
    }

    private static void promise5SeveralAtOnce() {
        sentence = "Promise 5: NONE if there is no such clock, it has 6 TRIALS, or one of the two is none of these.";
        for (int rate : NO_RATES) {
            for (int chill : NO_CHILLS) {
                refused(SOME, NONE, h -> h.trial(1, rate, chill));
            }
            refused(FULL, NONE, h -> h.trial(0, rate, 0));
            refused(SOME, NONE, h -> h.trial(4, rate, 0));
        }
        refused(FULL, NONE, h -> h.trial(8, 1000, 101));
        refused(EMPTY, NONE, h -> h.trial(LEAST, LEAST, LEAST));
        refused(FULL, NONE, h -> h.trial(MOST, MOST, MOST));
    }

    // ---- Promises 6 to 8

    private static void promise6NoSuchClock() {
        sentence = "Promise 6: NONE if there is no such clock";
        for (int scene = 0; scene < SCENES; scene++) {
            for (int clock : noClocksOf(clocksIn(scene))) {
                refused(scene, NONE, h -> h.annul(clock));
            }
        }
        for (int clock = 0; clock < 8; clock++) {
            due(5, made(FULL).annul(clock));
        }
    }

    private static void promise6ItHasNone() {
        sentence = "Promise 6: NONE if .. it has none.";
        refused(ONE, NONE, h -> h.annul(0));
        refused(SOME, NONE, h -> h.annul(3));
        for (int clock = 0; clock < 8; clock++) {
            int c = clock;
            refused(EIGHT, NONE, h -> h.annul(c));
        }
        House h = made(SOME);
        due(0, h.annul(1));
        List<Integer> before = look(h);
        due(NONE, h.annul(1));
        due(NONE, h.annul(1));
        same(before, look(h));
        due(4, h.trial(1, 999, 99));
        due(0, h.annul(1));
    }

    private static void promise7NoneSuch() {
        sentence = "Promise 7: NONE if there is none such.";
        for (int scene = 0; scene < SCENES; scene++) {
            for (int k : noClocksOf(clocksIn(scene))) {
                refused(scene, NONE, h -> h.place(k));
            }
        }
        for (int many = 1; many <= 8; many++) {
            House h = house(many);
            due(0, h.place(0));
            due(many - 1, h.place(many - 1));
            due(NONE, h.place(many));
            due(NONE, h.place(-1));
        }
    }

    private static void promise8AnotherWhat() {
        sentence = "Promise 8: NONE for another what";
        for (int what : outside(6)) {
            refused(SOME, NONE, h -> h.tell(0, what));
            refused(SOME, NONE, h -> h.tell(4, what));
            refused(FULL, NONE, h -> h.tell(7, what));
        }
        due(3, made(SOME).tell(0, 0));
        due(-99, made(SOME).tell(0, 6));
    }

    private static void promise8NoSuchClock() {
        sentence = "Promise 8: NONE .. if there is no such clock.";
        for (int scene = 0; scene < SCENES; scene++) {
            for (int clock : noClocksOf(clocksIn(scene))) {
                for (int what = 0; what <= 6; what++) {
                    int w = what;
                    refused(scene, NONE, h -> h.tell(clock, w));
                }
                refused(scene, NONE, h -> h.tell(clock, clock));
            }
        }
    }

    // ---- Promises 9 and 10

    private static void promise9NoSuchWhat() {
        sentence = "Promise 9: NONE if there is no such what";
        for (int what : outside(1)) {
            for (int how = 0; how <= 5; how++) {
                int w = how;
                refused(SOME, NONE, h -> h.ask(what, 5, w, 1, 2));
                refused(FULL, NONE, h -> h.ask(what, 4, w, 7, 7));
            }
        }
        due(1, made(SOME).ask(0, 0, 0, 0, 1));
        due(1, made(SOME).ask(1, 0, 0, 0, 1));
    }

    private static void promise9NoSuchSign() {
        sentence = "Promise 9: NONE if there is no such .. SIGN";
        for (int sign : outside(5)) {
            for (int how = 0; how <= 5; how++) {
                int w = how;
                refused(SOME, NONE, h -> h.ask(0, sign, w, 1, 2));
                refused(SOME, NONE, h -> h.ask(1, sign, w, 0, 1));
                refused(FULL, NONE, h -> h.ask(1, sign, w, 7, 7));
            }
        }
        due(1, made(SOME).ask(0, 0, 0, 0, 1));
        due(1, made(SOME).ask(0, 5, 0, 0, 1));
    }

    private static void promise9NoSuchHow() {
        sentence = "Promise 9: NONE if there is no such .. how";
        for (int how : outside(5)) {
            for (int sign = 0; sign <= 5; sign++) {
                int s = sign;
                refused(SOME, NONE, h -> h.ask(0, s, how, 1, 2));
                refused(SOME, NONE, h -> h.ask(1, s, how, 0, 1));
                refused(FULL, NONE, h -> h.ask(1, s, how, 7, 7));
            }
        }
        due(1, made(SOME).ask(0, 0, 0, 0, 1));
        due(2, made(SOME).ask(0, 0, 5, 0, 1));
    }

    private static void promise9NoSuchI() {
        sentence = "Promise 9: NONE if there is no such .. i";
        for (int scene = 0; scene < SCENES; scene++) {
            for (int i : noClocksOf(clocksIn(scene))) {
                for (int how = 0; how <= 5; how++) {
                    int w = how;
                    refused(scene, NONE, h -> h.ask(0, 5, w, i, 0));
                    refused(scene, NONE, h -> h.ask(1, 4, w, i, 0));
                    refused(scene, NONE, h -> h.ask(0, 5, w, i, i));
                }
            }
        }
        due(7, made(EIGHT).ask(0, 5, 3, 7, 0));
        due(0, made(EIGHT).ask(0, 5, 3, 0, 7));
    }

    private static void promise9NoSuchJ() {
        sentence = "Promise 9: NONE if there is no such .. j";
        for (int scene = 0; scene < SCENES; scene++) {
            for (int j : noClocksOf(clocksIn(scene))) {
                for (int how = 0; how <= 5; how++) {
                    int w = how;
                    refused(scene, NONE, h -> h.ask(0, 5, w, 0, j));
                    refused(scene, NONE, h -> h.ask(1, 4, w, 0, j));
                }
            }
        }
        due(7, made(EIGHT).ask(0, 4, 3, 0, 7));
        due(0, made(EIGHT).ask(0, 4, 3, 7, 0));
    }

    private static void promise10AnotherWhat() {
        sentence = "Promise 10: NONE for another what.";
        for (int scene = 0; scene < SCENES; scene++) {
            for (int what : outside(6)) {
                refused(scene, NONE, h -> h.count(what));
            }
        }
        due(4, made(SOME).count(0));
        due(0, made(SOME).count(6));
    }

    private static void whatOnlyTellsChangesNothing() {
        sentence = "Promises 7 to 10: place, tell, count, and ask but for how 4, tell and change nothing";
        for (int scene = 0; scene < SCENES; scene++) {
            House h = made(scene);
            List<Integer> before = look(h);
            same(before, look(h));
            House looked = made(scene);
            look(looked);
            same(dig(made(scene)), dig(looked));
        }
    }

    // ---- wrong numbers

    private static int[] noClocksOf(int clocks) {
        return outside(clocks - 1);
    }

    /** The numbers next to 0 .. last, the ends of int, and some that would wrap around. */
    private static int[] outside(int last) {
        List<Integer> found = new ArrayList<>(List.of(-1, last + 1, LEAST, MOST, -2, last + 2, 9, 48));
        for (int wrapped : WRAPPED) {
            found.add(wrapped);
        }
        return found.stream().mapToInt(Integer::intValue).toArray();
    }

    // ---- houses

    private static final int EMPTY = 0;
    private static final int ONE = 1;
    private static final int SOME = 2;
    private static final int EIGHT = 3;
    private static final int FULL = 4;
    private static final int SCENES = 5;

    private static int clocksIn(int scene) {
        return new int[] {0, 1, 4, 8, 8}[scene];
    }

    private static House made(int scene) {
        House h = house(clocksIn(scene));
        if (scene == SOME) {
            h.prize(350);
            h.frost(10);
            h.trial(0, 400, 20);
            h.trial(0, 300, 10);
            h.trial(0, 320, -99);
            h.trial(1, 310, -1);
            h.trial(2, -1, 100);
            h.ask(0, 0, 4, 0, 1);
            h.ask(0, 5, 4, 3, 3);
        }
        if (scene == FULL) {
            h.prize(350);
            h.frost(10);
            for (int n = 0; n < 48; n++) {
                h.trial(n % 8, n % 5 == 4 ? -1 : 900 - 7 * n, n % 7 == 6 ? 100 : n);
            }
            h.ask(0, 4, 4, 0, 0);
            h.ask(0, 4, 4, 7, 7);
        }
        return h;
    }

    private static House house(int clocks) {
        House h = new House();
        for (int n = 0; n < clocks; n++) {
            h.admit();
        }
        return h;
    }

    // ---- checking

    private interface Call {
        int on(House h);
    }

    /**
     * The call is refused; what the other calls answer is the same before it and after it; and so is
     * what comes to light only when TRIALS are annulled and new ones are held.
     */
    private static void refused(int scene, int answer, Call call) {
        House h = made(scene);
        List<Integer> before = look(h);
        due(answer, call.on(h));
        String refusedCall = latestCall;
        List<Integer> after = look(h);
        latestCall = refusedCall;
        same(before, after);
        House dug = made(scene);
        call.on(dug);
        List<Integer> found = dig(dug);
        latestCall = refusedCall;
        same(DUG.get(scene), found);
    }

    private static final int[] HOWS_THAT_TELL = {0, 1, 2, 3, 5};

    private static List<Integer> look(House h) {
        List<Integer> seen = new ArrayList<>();
        for (int what = 0; what <= 6; what++) {
            seen.add(h.count(what));
        }
        for (int i = 0; i < 8; i++) {
            seen.add(h.place(i));
            for (int what = 0; what <= 6; what++) {
                seen.add(h.tell(i, what));
            }
            for (int j = 0; j < 8; j++) {
                seen.add(h.ask(0, (i + j) % 6, HOWS_THAT_TELL[(i + 2 * j) % 5], i, j));
                seen.add(h.ask(1, (i + 2 * j) % 6, HOWS_THAT_TELL[(i + j) % 5], i, j));
            }
        }
        return seen;
    }

    private static List<Integer> dig(House h) {
        List<Integer> found = new ArrayList<>();
        for (int clock = 0; clock < 8; clock++) {
            for (int n = 0; n < 7; n++) {
                found.add(h.tell(clock, 1));
                found.add(h.tell(clock, 6));
                found.add(h.annul(clock));
            }
        }
        for (int clock = 0; clock < 8; clock++) {
            found.add(h.admit());
            found.add(h.trial(clock, 350 - clock, 7 + clock));
            found.add(h.tell(clock, 3));
        }
        found.add(h.count(1));
        found.add(h.count(4));
        return found;
    }

    // Made once, as many refused calls are held against the same houses.
    private static final List<List<Integer>> DUG = dugScenes();

    private static List<List<Integer>> dugScenes() {
        List<List<Integer>> dug = new ArrayList<>();
        for (int scene = 0; scene < SCENES; scene++) {
            dug.add(dig(made(scene)));
        }
        return dug;
    }

    private static void same(List<Integer> before, List<Integer> after) {
        if (!before.equals(after)) {
            wrong++;
            System.out.println(sentence + ": " + latestCall + " is refused, and yet changes what others answer");
        }
    }

    private static void due(int want, int got) {
        if (got != want) {
            wrong++;
            System.out.println(sentence + ": " + latestCall + " answered " + got + ", due is " + want);
        }
    }

    /** An object whose calls are told and counted, as the document promises nothing beyond 512. */
    private static final class House {
        private final ChronoTrials x = new ChronoTrials();
        private int calls = 0;

        private void call(String name, int... arguments) {
            StringBuilder text = new StringBuilder(name).append('(');
            for (int n = 0; n < arguments.length; n++) {
                text.append(n == 0 ? "" : ", ").append(arguments[n]);
            }
            latestCall = text.append(')').toString();
            calls++;
            if (calls > MOST_CALLS) {
                throw new IllegalStateException("this test calls one object too often: " + sentence);
            }
        }

        int admit() {
            call("admit");
            return x.admit();
        }

        int prize(int hundredths) {
            call("prize", hundredths);
            return x.prize(hundredths) ? 1 : 0;
        }

        int frost(int tenths) {
            call("frost", tenths);
            return x.frost(tenths) ? 1 : 0;
        }

        int trial(int clock, int hundredths, int tenths) {
            call("trial", clock, hundredths, tenths);
            return x.trial(clock, hundredths, tenths);
        }

        int annul(int clock) {
            call("annul", clock);
            return x.annul(clock);
        }

        int place(int k) {
            call("place", k);
            return x.place(k);
        }

        int tell(int clock, int what) {
            call("tell", clock, what);
            return x.tell(clock, what);
        }

        int ask(int what, int sign, int how, int i, int j) {
            call("ask", what, sign, how, i, j);
            return x.ask(what, sign, how, i, j);
        }

        int count(int what) {
            call("count", what);
            return x.count(what);
        }
    }
}
