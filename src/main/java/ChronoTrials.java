/**
 * Trials of chronometers at an observatory, with a desk that compares two of them.
 *
 * <p>The terms in capitals in the document (RATE, CHILL, BEST, SEAL, ...) are kept here as names.
 */
public final class ChronoTrials {
    /** There is none. */
    public static final int NONE = -1;

    private static final int MOST_CLOCKS = 8;
    private static final int MOST_TRIALS = 6;

    private static final int MOST_RATE = 999;
    private static final int LEAST_CHILL = -99;
    private static final int MOST_CHILL = 99;
    // -1 is a chill that can be read, so one that was not read has a mark outside the range.
    private static final int NO_CHILL = 100;

    private static final int COLD = 1;
    private static final int WINS = 2;
    private static final int BETTER = 4;
    private static final int RECORD = 8;

    private static final int LESS = 0;
    private static final int LESS_OR_ALIKE = 1;
    private static final int MORE = 2;
    private static final int MORE_OR_ALIKE = 3;
    private static final int ALIKE = 4;
    private static final int UNLIKE = 5;

    private static final int OF_BESTS = 0;
    private static final int OF_CHILLS = 1;

    private static final int LAST_HOW = 5;

    // One row for all clocks, so that an object is few arrays and no call makes any: see slot().
    private final int[] rates = new int[MOST_CLOCKS * MOST_TRIALS];
    private final int[] chills = new int[MOST_CLOCKS * MOST_TRIALS];
    private final int[] trialsOf = new int[MOST_CLOCKS];
    private final int[] bests = new int[MOST_CLOCKS];
    private final boolean[] seals = new boolean[MOST_CLOCKS];

    private int clocks = 0;
    private int prizeRate = NONE;
    private int recordRate = NONE;
    private int frostChill = NO_CHILL;

    /** No clocks. */
    public ChronoTrials() {
    }

    /** One more clock: its number, or NONE if there are 8. */
    public int admit() {
        if (clocks >= MOST_CLOCKS) {
            return NONE;
        }
        int clock = clocks;
        bests[clock] = NONE;
        clocks++;
        return clock;
    }

    /** Sets the PRIZE, -1 for NONE; false if that is no RATE. */
    public boolean prize(int hundredths) {
        if (!isRate(hundredths)) {
            return false;
        }
        prizeRate = hundredths;
        return true;
    }

    /** Sets the FROST, 100 for NONE; false if that is no CHILL. */
    public boolean frost(int tenths) {
        if (!isChill(tenths)) {
            return false;
        }
        frostChill = tenths;
        return true;
    }

    /** One more TRIAL of a clock: the sum of 1 COLD, 2 WINS, 4 BETTER, 8 RECORD; or NONE. */
    public int trial(int clock, int hundredths, int tenths) {
        if (!isClock(clock) || !isRate(hundredths) || !isChill(tenths)) {
            return NONE;
        }
        if (trialsOf[clock] >= MOST_TRIALS) {
            return NONE;
        }
        int marks = marksOf(clock, hundredths, tenths);
        int slot = slot(clock, trialsOf[clock]);
        rates[slot] = hundredths;
        chills[slot] = tenths;
        trialsOf[clock]++;
        if ((marks & BETTER) != 0) {
            bests[clock] = hundredths;
        }
        if ((marks & RECORD) != 0) {
            recordRate = hundredths;
        }
        return marks;
    }

    /** Takes the latest TRIAL of a clock away: how many are left; or NONE. */
    public int annul(int clock) {
        if (!isClock(clock) || trialsOf[clock] <= 0) {
            return NONE;
        }
        trialsOf[clock]--;
        bests[clock] = leastRate(clock);
        return trialsOf[clock];
    }

    /** The clock at place k of THE ORDER, or NONE. */
    public int place(int k) {
        for (int clock = 0; clock < clocks; clock++) {
            if (clocksAhead(clock) == k) {
                return clock;
            }
        }
        return NONE;
    }

    /** What there is to tell of one clock, or NONE. */
    public int tell(int clock, int what) {
        if (!isClock(clock)) {
            return NONE;
        }
        switch (what) {
            case 0:
                return trialsOf[clock];
            case 1:
                return bests[clock];
            case 2:
                return rank(clock);
            case 3:
                return oneIf(seals[clock]);
            case 4:
                return coldTrials(clock);
            case 5:
                return trialsAheadOfBest(clock);
            case 6:
                return latestChill(clock);
            default:
                return NONE;
        }
    }

    /** Whether, and how far, a SIGN holds of two clocks i and j; or NONE. */
    public int ask(int what, int sign, int how, int i, int j) {
        if (!isWithin(what, OF_BESTS, OF_CHILLS) || !isWithin(sign, LESS, UNLIKE)) {
            return NONE;
        }
        if (!isWithin(how, 0, LAST_HOW) || !isClock(i) || !isClock(j)) {
            return NONE;
        }
        boolean said = holdsOfClocks(what, sign, i, j);
        switch (how) {
            case 0:
                return oneIf(said);
            case 1:
                return oneIf(!said);
            case 2:
                return clocksInARow(what, sign, i, j);
            case 3:
                return said ? i : j;
            case 4:
                seals[i] = said;
                return sealsOn();
            default:
                return bothWays(said, holdsOfClocks(what, sign, j, i));
        }
    }

    /** What there is to count in the whole house, or NONE. */
    public int count(int what) {
        switch (what) {
            case 0:
                return clocks;
            case 1:
                return recordRate;
            case 2:
                return prizeRate;
            case 3:
                return frostChill;
            case 4:
                return trialsOfAll();
            case 5:
                return sealsOn();
            case 6:
                return firstOfTheBest();
            default:
                return NONE;
        }
    }

    private boolean isClock(int clock) {
        return clock >= 0 && clock < clocks;
    }

    private static boolean isRate(int hundredths) {
        return hundredths == NONE || isWithin(hundredths, 0, MOST_RATE);
    }

    private static boolean isChill(int tenths) {
        return tenths == NO_CHILL || isWithin(tenths, LEAST_CHILL, MOST_CHILL);
    }

    private static boolean isWithin(int number, int least, int most) {
        return number >= least && number <= most;
    }

    private static int oneIf(boolean holds) {
        return holds ? 1 : 0;
    }

    private static int slot(int clock, int trial) {
        return clock * MOST_TRIALS + trial;
    }

    private static boolean holdsOfRates(int sign, int a, int b) {
        if (a == NONE || b == NONE) {
            return sign == UNLIKE;
        }
        return holdsOfNumbers(sign, a, b);
    }

    private static boolean holdsOfChills(int sign, int a, int b) {
        if (a == NO_CHILL || b == NO_CHILL) {
            return sign == UNLIKE;
        }
        return holdsOfNumbers(sign, a, b);
    }

    private static boolean holdsOfNumbers(int sign, int a, int b) {
        switch (sign) {
            case LESS:
                return a < b;
            case LESS_OR_ALIKE:
                return a <= b;
            case MORE:
                return a > b;
            case MORE_OR_ALIKE:
                return a >= b;
            case ALIKE:
                return a == b;
            default:
                return a != b;
        }
    }

    private boolean holdsOfClocks(int what, int sign, int i, int j) {
        if (what == OF_BESTS) {
            return holdsOfRates(sign, bests[i], bests[j]);
        }
        return holdsOfChills(sign, latestChill(i), latestChill(j));
    }

    private boolean isCold(int chill) {
        return holdsOfChills(LESS_OR_ALIKE, chill, frostChill);
    }

    // "Not less or alike" is no "more": it holds against NONE too, so a first rate betters NONE.
    private static boolean betters(int rate, int old) {
        return rate != NONE && !holdsOfRates(LESS_OR_ALIKE, old, rate);
    }

    private int marksOf(int clock, int rate, int chill) {
        int marks = 0;
        if (isCold(chill)) {
            marks += COLD;
        }
        if (holdsOfRates(LESS_OR_ALIKE, rate, prizeRate)) {
            marks += WINS;
        }
        if (betters(rate, bests[clock])) {
            marks += BETTER;
        }
        if (isCold(chill) && betters(rate, recordRate)) {
            marks += RECORD;
        }
        return marks;
    }

    private int leastRate(int clock) {
        int least = NONE;
        for (int t = 0; t < trialsOf[clock]; t++) {
            int rate = rates[slot(clock, t)];
            if (betters(rate, least)) {
                least = rate;
            }
        }
        return least;
    }

    private int clocksAhead(int clock) {
        int ahead = 0;
        for (int other = 0; other < clocks; other++) {
            if (goesAhead(other, clock)) {
                ahead++;
            }
        }
        return ahead;
    }

    private boolean goesAhead(int a, int b) {
        if (bests[a] == bests[b]) {
            return a < b;
        }
        return betters(bests[a], bests[b]);
    }

    // A best betters NONE, so one rule serves clocks with a BEST and without.
    private int rank(int clock) {
        int others = 0;
        for (int other = 0; other < clocks; other++) {
            if (betters(bests[other], bests[clock])) {
                others++;
            }
        }
        return others;
    }

    private int coldTrials(int clock) {
        int cold = 0;
        for (int t = 0; t < trialsOf[clock]; t++) {
            if (isCold(chills[slot(clock, t)])) {
                cold++;
            }
        }
        return cold;
    }

    private int trialsAheadOfBest(int clock) {
        int t = 0;
        while (t < trialsOf[clock] && holdsOfRates(MORE, rates[slot(clock, t)], bests[clock])) {
            t++;
        }
        return t;
    }

    private int latestChill(int clock) {
        if (trialsOf[clock] <= 0) {
            return NO_CHILL;
        }
        return chills[slot(clock, trialsOf[clock] - 1)];
    }

    private int clocksInARow(int what, int sign, int i, int j) {
        int clock = i;
        while (clock < clocks && holdsOfClocks(what, sign, clock, j)) {
            clock++;
        }
        return clock - i;
    }

    private static int bothWays(boolean there, boolean back) {
        if (there && back) {
            return 1;
        }
        return there || back ? 2 : 0;
    }

    private int sealsOn() {
        int on = 0;
        for (int clock = 0; clock < clocks; clock++) {
            on += oneIf(seals[clock]);
        }
        return on;
    }

    private int trialsOfAll() {
        int all = 0;
        for (int clock = 0; clock < clocks; clock++) {
            all += trialsOf[clock];
        }
        return all;
    }

    private int firstOfTheBest() {
        int first = NONE;
        int least = NONE;
        for (int clock = 0; clock < clocks; clock++) {
            if (betters(bests[clock], least)) {
                first = clock;
                least = bests[clock];
            }
        }
        return first;
    }
}
