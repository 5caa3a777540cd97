/**
 * The sentences of the document that name an edge of what is TAKEN (the least, the greatest, empty,
 * full, NONE, alike), one method each: its name says the part of the document, its first line the
 * sentence. The sentences on what is refused are in ChronoTrialsRefusals.
 */
public final class ChronoTrialsEdges {
    private static final int NONE = -1;
    private static final int NO_CHILL = 100;
    private static final int MOST_CALLS = 512;

    private static final int[] RATES = {0, 1, 500, 998, 999};
    private static final int[] CHILLS = {-99, -98, -1, 0, 1, 98, 99};
    // The ends of int, and numbers that would be taken if they were cut to fewer bits.
    private static final int[] FAR_OFF = {
        Integer.MIN_VALUE, Integer.MIN_VALUE + 1, Integer.MIN_VALUE + 50, -65536, -65537, 65535, 65536, 65586,
        1 << 24, Integer.MAX_VALUE - 1, Integer.MAX_VALUE,
    };

    // Of each SIGN: does it hold of a lesser and a greater, of two alike, of a greater and a lesser?
    private static final int[][] HOLDS = {{1, 0, 0}, {1, 1, 0}, {0, 0, 1}, {0, 1, 1}, {0, 1, 0}, {1, 0, 1}};

    private static int wrong = 0;
    private static String sentence = "";
    private static String latestCall = "";

    public static void main(String[] args) {
        whatItIs512Calls();
        whatItIs512CallsInAFullHouse();
        faceNone();
        termsRates();
        termsChills();
        termsSigns();
        termsNoneOfTwo();
        termsNoneOfTwoInTrials();
        termsEightClocks();
        termsSixTrials();
        termsOneTrialBehindTheOther();
        termsClockAtFirst();
        termsHouseAtFirst();
        termsAsTheyWereAhead();
        termsCold();
        termsWins();
        termsBetter();
        termsRecord();
        termsOrderLessGoesAhead();
        termsOrderNoneBehind();
        termsOrderAlike();
        promise1NoClocks();
        promise2TheNumber();
        promise3PrizeNone();
        promise4FrostNone();
        promise5RateNone();
        promise5ChillNone();
        promise5TheSum();
        promise6LeastRate();
        promise6NoneWithoutOne();
        promise6TheRecordStays();
        promise6HowManyAreLeft();
        promise7FromZeroOn();
        promise8Trials();
        promise8BestNone();
        promise8Rank();
        promise8RankOfNone();
        promise8Seal();
        promise8ColdAsItIsNow();
        promise8UpToTheFirst();
        promise8UpToTheFirstOfNone();
        promise8LatestChill();
        promise9WhatIsCompared();
        promise9ChillNoneWithoutATrial();
        promise9SaidAndGainsaid();
        promise9UpToTheFirst();
        promise9UpToTheLastClock();
        promise9EitherOfTwo();
        promise9Seals();
        promise9BothWays();
        promise10Clocks();
        promise10RecordNone();
        promise10PrizeLikewise();
        promise10FrostNone();
        promise10TrialsOfAll();
        promise10Seals();
        promise10LeastClock();
        promise10LeastClockNone();
        System.out.println(wrong == 0 ? "all answers are as due" : wrong + " answers are not as due");
        if (wrong != 0) {
            System.exit(1);
        }
    }

    // ---- What it is, The public face

    private static void whatItIs512Calls() {
        sentence = "What it is: at most 512 calls (the 512th answers as due)";
        for (int filler = 0; filler <= 4; filler++) {
            due(511, busy(filler).calls);
            due(3, busy(filler).admit());
            due(1, busy(filler).prize(999));
            due(1, busy(filler).frost(-99));
            due(0, busy(filler).frost(101));
            due(15, busy(filler).trial(2, 299, 10));
            due(0, busy(filler).annul(0));
            due(0, busy(filler).place(0));
            due(2, busy(filler).place(2));
            due(300, busy(filler).tell(0, 1));
            due(1, busy(filler).tell(1, 2));
            due(1, busy(filler).ask(0, 5, 4, 1, 0));
            due(3, busy(filler).ask(0, 5, 2, 0, 1));
            due(300, busy(filler).count(1));
            due(2, busy(filler).count(4));
        }
    }

    /** 511 calls old, with three clocks; what the fillers do, they undo. */
    private static House busy(int filler) {
        House h = house(3);
        h.prize(350);
        h.frost(10);
        h.trial(0, 300, 10);
        h.trial(1, -1, 100);
        while (h.calls < MOST_CALLS - 1) {
            fill(h, filler);
        }
        return h;
    }

    private static void fill(House h, int filler) {
        switch (filler) {
            case 0:
                due(0, h.trial(0, 400, 20));
                due(1, h.annul(0));
                break;
            case 1:
                due(1, h.prize(0));
                due(1, h.prize(350));
                break;
            case 2:
                due(1, h.frost(100));
                due(1, h.frost(10));
                break;
            case 3:
                due(1, h.ask(0, 5, 4, 2, 2));
                due(0, h.ask(0, 4, 4, 2, 2));
                break;
            default:
                due(NONE, h.trial(3, 0, 0));
                due(NONE, h.annul(2));
                break;
        }
    }

    private static void whatItIs512CallsInAFullHouse() {
        sentence = "What it is: at most 512 calls (a full house emptied and filled again)";
        House h = house(8);
        for (int time = 0; time < 5; time++) {
            for (int clock = 0; clock < 8; clock++) {
                for (int n = 0; n < 6; n++) {
                    due(4, h.trial(clock, 100 - n, 0));
                }
            }
            for (int clock = 0; clock < 8; clock++) {
                for (int n = 5; n >= 0; n--) {
                    due(n, h.annul(clock));
                }
            }
        }
        while (h.calls < MOST_CALLS - 1) {
            due(NONE, h.admit());
        }
        due(0, h.count(4));
        due(MOST_CALLS, h.calls);
    }

    private static void faceNone() {
        sentence = "The public face: NONE = -1";
        latestCall = "NONE";
        due(-1, ChronoTrials.NONE);
    }

    // ---- Terms

    private static void termsRates() {
        sentence = "Terms: RATES are 0 .. 999, or NONE";
        for (int rate = -1500; rate <= 2500; rate++) {
            rate(rate, rate >= -1 && rate <= 999);
        }
        for (int rate : FAR_OFF) {
            rate(rate, false);
        }
    }

    private static void rate(int rate, boolean taken) {
        House h = house(1);
        due(1, h.prize(77));
        due(taken ? 1 : 0, h.prize(rate));
        due(taken ? rate : 77, h.count(2));
        due(1, h.prize(-1));
        due(!taken ? NONE : rate == -1 ? 0 : 4, h.trial(0, rate, 0));
        due(taken ? rate : NONE, h.tell(0, 1));
        due(taken ? 1 : 0, h.tell(0, 0));
    }

    private static void termsChills() {
        sentence = "Terms: CHILLS are -99 .. 99, or NONE";
        for (int chill = -1500; chill <= 1500; chill++) {
            chill(chill, chill >= -99 && chill <= 100);
        }
        for (int chill : FAR_OFF) {
            chill(chill, false);
        }
    }

    private static void chill(int chill, boolean taken) {
        House h = house(1);
        due(1, h.frost(77));
        due(taken ? 1 : 0, h.frost(chill));
        due(taken ? chill : 77, h.count(3));
        due(1, h.frost(100));
        due(taken ? 0 : NONE, h.trial(0, -1, chill));
        due(taken ? chill : NO_CHILL, h.tell(0, 6));
        due(taken ? 1 : 0, h.tell(0, 0));
    }

    private static void termsSigns() {
        sentence = "Terms: SIGNS: 0 less, 1 less or alike, 2 more, 3 more or alike, 4 alike, 5 unlike";
        for (int a : RATES) {
            for (int b : RATES) {
                House h = house(2);
                h.trial(0, a, 0);
                h.trial(1, b, 0);
                signsHold(h, 0, Integer.compare(a, b));
            }
        }
        for (int a : CHILLS) {
            for (int b : CHILLS) {
                House h = house(2);
                h.trial(0, 0, a);
                h.trial(1, 0, b);
                signsHold(h, 1, Integer.compare(a, b));
            }
        }
    }

    private static void signsHold(House h, int what, int compared) {
        for (int sign = 0; sign <= 5; sign++) {
            due(HOLDS[sign][1 + compared], h.ask(what, sign, 0, 0, 1));
            due(HOLDS[sign][1 - compared], h.ask(what, sign, 0, 1, 0));
        }
    }

    private static void termsNoneOfTwo() {
        sentence = "Terms: Where one of two is NONE, or both are, none of 0 to 4 holds, and 5 does.";
        for (int rate : RATES) {
            for (int chill : CHILLS) {
                House h = house(4);
                h.trial(0, rate, chill);
                h.trial(1, -1, 100);
                h.trial(3, rate, chill);
                h.annul(3);
                for (int sign = 0; sign <= 5; sign++) {
                    noneOfTwo(h, sign);
                }
            }
        }
    }

    /** Of the clocks that are NONE, 1 stopped unread, 2 has no TRIAL, 3 lost its only one. */
    private static void noneOfTwo(House h, int sign) {
        int held = sign == 5 ? 1 : 0;
        for (int what = 0; what <= 1; what++) {
            for (int none = 1; none <= 3; none++) {
                due(held, h.ask(what, sign, 0, 0, none));
                due(held, h.ask(what, sign, 0, none, 0));
                due(held, h.ask(what, sign, 0, none, none));
                due(held, h.ask(what, sign, 0, none, 1 + none % 3));
            }
        }
    }

    private static void termsNoneOfTwoInTrials() {
        sentence = "Terms: Where one of two is NONE, or both are, .. (of a TRIAL's RATE and PRIZE, CHILL and FROST)";
        for (int prize : new int[] {-1, 0, 999}) {
            for (int frost : new int[] {-99, 99, 100}) {
                House h = house(1);
                h.prize(prize);
                h.frost(frost);
                due(0, h.trial(0, -1, 100));
                due(frost == 100 ? 0 : 1, h.trial(0, -1, -99));
                due(prize == -1 ? 4 : 6, h.trial(0, 0, 100));
                due(frost == 100 ? 0 : 1, h.tell(0, 4));
            }
        }
    }

    private static void termsEightClocks() {
        sentence = "Terms: CLOCKS, 8 at most, are numbered from 0 on as they are admitted";
        House h = new House();
        for (int clock = 0; clock < 8; clock++) {
            due(NONE, h.tell(clock, 0));
            due(clock, h.admit());
            due(0, h.tell(clock, 0));
            due(clock + 1, h.count(0));
        }
        due(NONE, h.admit());
        due(8, h.count(0));
        due(NONE, h.tell(8, 0));
        due(0, h.tell(7, 0));
    }

    private static void termsSixTrials() {
        sentence = "Terms: Each has up to 6 TRIALS";
        House h = house(8);
        for (int clock = 0; clock < 8; clock++) {
            for (int n = 1; n <= 6; n++) {
                due(4, h.trial(clock, 100 - n, n));
                due(n, h.tell(clock, 0));
            }
            due(NONE, h.trial(clock, 0, 0));
            due(6, h.tell(clock, 0));
            due(94, h.tell(clock, 1));
        }
        due(48, h.count(4));
    }

    private static void termsOneTrialBehindTheOther() {
        sentence = "Terms: TRIALS, one behind the other, of a RATE and a CHILL each";
        House h = house(8);
        for (int n = 0; n < 6; n++) {
            for (int clock = 0; clock < 8; clock++) {
                h.trial(clock, 900 - 100 * n + clock, 10 * n - clock);
            }
        }
        for (int clock = 0; clock < 8; clock++) {
            for (int n = 5; n >= 0; n--) {
                due(900 - 100 * n + clock, h.tell(clock, 1));
                due(10 * n - clock, h.tell(clock, 6));
                due(n, h.annul(clock));
            }
        }
    }

    private static void termsClockAtFirst() {
        sentence = "Terms: a BEST, a RATE, NONE at first; a SEAL, off at first";
        House h = new House();
        for (int clock = 0; clock < 8; clock++) {
            h.admit();
            due(0, h.tell(clock, 0));
            due(NONE, h.tell(clock, 1));
            due(0, h.tell(clock, 3));
            due(NO_CHILL, h.tell(clock, 6));
            due(clock, h.count(5));
            // So that a later clock would show what it takes over from an earlier one.
            due(4, h.trial(clock, 0, 0));
            due(clock + 1, h.ask(0, 4, 4, clock, clock));
        }
    }

    private static void termsHouseAtFirst() {
        sentence = "Terms: The house has a PRIZE and a RECORD and a FROST, all NONE at first";
        House h = new House();
        due(NONE, h.count(1));
        due(NONE, h.count(2));
        due(NO_CHILL, h.count(3));
        h.admit();
        due(4, h.trial(0, 0, -99));
        due(0, h.tell(0, 4));
        due(NONE, h.count(1));
        due(1, h.frost(99));
        due(9, h.trial(0, 999, 99));
    }

    private static void termsAsTheyWereAhead() {
        sentence = "Terms: A TRIAL, with BEST and RECORD as they were ahead of it";
        House h = house(2);
        h.frost(0);
        due(13, h.trial(0, 999, 0));
        due(13, h.trial(0, 998, 0));
        due(1, h.trial(0, 998, 0));
        due(5, h.trial(1, 998, 0));
        due(13, h.trial(1, 997, 0));
        due(5, h.trial(0, 997, 0));
    }

    private static void termsCold() {
        sentence = "Terms: it is COLD if its CHILL is less than the FROST, or alike";
        for (int frost : CHILLS) {
            House h = house(1);
            h.frost(frost);
            due(1, h.trial(0, -1, frost));
            due(1, h.trial(0, -1, -99));
            due(frost == 99 ? 1 : 0, h.trial(0, -1, 99));
            if (frost > -99) {
                due(1, h.trial(0, -1, frost - 1));
            }
            due(0, h.trial(0, -1, frost == 99 ? 100 : frost + 1));
        }
    }

    private static void termsWins() {
        sentence = "Terms: It WINS if its RATE is less than the PRIZE, or alike";
        for (int prize : RATES) {
            House h = house(1);
            due(4, h.trial(0, 0, 0));
            h.prize(prize);
            due(2, h.trial(0, prize, 0));
            due(2, h.trial(0, 0, 0));
            due(prize == 999 ? 2 : 0, h.trial(0, 999, 0));
            due(prize == 0 ? 0 : 2, h.trial(0, prize == 0 ? -1 : prize - 1, 0));
            due(0, h.trial(0, prize == 999 ? -1 : prize + 1, 0));
        }
    }

    private static void termsBetter() {
        sentence = "Terms: It is BETTER if it has a RATE, and the BEST is not less than that or alike";
        for (int best : RATES) {
            House h = house(1);
            due(0, h.trial(0, -1, 0));
            due(4, h.trial(0, best, 0));
            due(0, h.trial(0, best, 0));
            due(0, h.trial(0, best == 999 ? -1 : best + 1, 0));
            due(0, h.trial(0, -1, 0));
            due(best, h.tell(0, 1));
            due(best == 0 ? 0 : 4, h.trial(0, best == 0 ? 0 : best - 1, 0));
            due(best == 0 ? 0 : best - 1, h.tell(0, 1));
        }
    }

    private static void termsRecord() {
        sentence = "Terms: It is a RECORD if it is COLD, has a RATE, and the RECORD is not less than that or alike";
        for (int record : RATES) {
            House h = house(3);
            h.frost(-99);
            due(4, h.trial(0, 0, -98));
            due(0, h.trial(0, 0, 100));
            due(1, h.trial(0, -1, -99));
            due(NONE, h.count(1));
            due(9, h.trial(0, record, -99));
            due(record, h.count(1));
            due(5, h.trial(1, record, -99));
            due(record == 999 ? 1 : 5, h.trial(2, record == 999 ? -1 : record + 1, -99));
            due(1, h.trial(1, -1, -99));
            due(record, h.count(1));
            due(record == 0 ? 1 : 13, h.trial(1, record == 0 ? 0 : record - 1, -99));
            due(record == 0 ? 0 : record - 1, h.count(1));
        }
    }

    private static void termsOrderLessGoesAhead() {
        sentence = "Terms: THE ORDER: one whose BEST is less goes ahead";
        House h = house(8);
        for (int clock = 0; clock < 8; clock++) {
            h.trial(clock, 7 - clock, 0);
        }
        order(h, 7, 6, 5, 4, 3, 2, 1, 0);
        House ends = house(4);
        ends.trial(0, 999, 0);
        ends.trial(1, 998, 0);
        ends.trial(2, 1, 0);
        ends.trial(3, 0, 0);
        order(ends, 3, 2, 1, 0);
    }

    private static void termsOrderNoneBehind() {
        sentence = "Terms: THE ORDER: those whose BEST is NONE go behind all others";
        House h = house(8);
        h.trial(0, -1, 0);
        h.trial(7, 999, 0);
        order(h, 7, 0, 1, 2, 3, 4, 5, 6);
        h.trial(6, 0, 0);
        order(h, 6, 7, 0, 1, 2, 3, 4, 5);
        h.annul(7);
        order(h, 6, 0, 1, 2, 3, 4, 5, 7);
        h.annul(6);
        order(h, 0, 1, 2, 3, 4, 5, 6, 7);
    }

    private static void termsOrderAlike() {
        sentence = "Terms: THE ORDER: two whose BESTS are alike, or NONE, by their numbers";
        House none = house(8);
        order(none, 0, 1, 2, 3, 4, 5, 6, 7);
        for (int rate : RATES) {
            House h = house(8);
            // From the last one on, so that the order is not that of the TRIALS.
            for (int clock = 7; clock >= 0; clock--) {
                h.trial(clock, rate, 0);
            }
            order(h, 0, 1, 2, 3, 4, 5, 6, 7);
            h.annul(4);
            h.annul(1);
            order(h, 0, 2, 3, 5, 6, 7, 1, 4);
        }
    }

    // ---- Promises 1 to 4

    private static void promise1NoClocks() {
        sentence = "Promise 1: No clocks.";
        House h = new House();
        due(0, h.count(0));
        due(0, h.count(4));
        due(0, h.count(5));
        due(NONE, h.count(6));
        due(NONE, h.place(0));
        due(1, h.prize(0));
        due(1, h.frost(0));
        due(0, h.count(0));
        due(0, h.admit());
        House other = new House();
        due(0, other.count(0));
        due(NONE, other.count(2));
    }

    private static void promise2TheNumber() {
        sentence = "Promise 2: One more clock: the number";
        House h = new House();
        for (int clock = 0; clock < 8; clock++) {
            due(clock, h.admit());
            due(clock + 1, h.count(0));
            due(4, h.trial(clock, clock, clock));
            due(clock, h.tell(clock, 1));
            due(clock, h.place(clock));
        }
    }

    private static void promise3PrizeNone() {
        sentence = "Promise 3: for -1 NONE: true";
        House h = house(1);
        due(1, h.prize(-1));
        due(NONE, h.count(2));
        due(1, h.prize(999));
        due(999, h.count(2));
        due(6, h.trial(0, 0, 0));
        due(1, h.prize(-1));
        due(NONE, h.count(2));
        due(0, h.trial(0, 0, 0));
        due(0, h.trial(0, -1, 0));
        due(1, h.prize(0));
        due(0, h.count(2));
        due(2, h.trial(0, 0, 0));
    }

    private static void promise4FrostNone() {
        sentence = "Promise 4: for 100 NONE: true";
        House h = house(1);
        due(1, h.frost(100));
        due(NO_CHILL, h.count(3));
        due(1, h.frost(99));
        due(99, h.count(3));
        due(1, h.trial(0, -1, -99));
        due(1, h.tell(0, 4));
        due(1, h.frost(100));
        due(NO_CHILL, h.count(3));
        due(0, h.trial(0, -1, -99));
        due(0, h.trial(0, -1, 100));
        due(0, h.tell(0, 4));
        // -1 is NONE of a RATE, but a CHILL like any other.
        due(1, h.frost(-1));
        due(-1, h.count(3));
        due(1, h.trial(0, -1, -1));
        due(0, h.trial(0, -1, 0));
        due(3, h.tell(0, 4));
    }

    // ---- Promise 5

    private static void promise5RateNone() {
        sentence = "Promise 5: its RATE (-1: NONE)";
        House h = house(1);
        h.prize(999);
        h.frost(99);
        due(1, h.trial(0, -1, 99));
        due(1, h.tell(0, 0));
        due(NONE, h.tell(0, 1));
        due(NONE, h.count(1));
        due(15, h.trial(0, 0, 99));
        due(1, h.trial(0, -1, 99));
        due(0, h.tell(0, 1));
        due(0, h.count(1));
    }

    private static void promise5ChillNone() {
        sentence = "Promise 5: its CHILL (100: NONE)";
        House h = house(1);
        h.prize(999);
        h.frost(99);
        due(6, h.trial(0, 5, 100));
        due(1, h.tell(0, 0));
        due(NO_CHILL, h.tell(0, 6));
        due(NONE, h.count(1));
        due(15, h.trial(0, 4, 99));
        due(99, h.tell(0, 6));
        due(3, h.trial(0, 4, -1));
        due(-1, h.tell(0, 6));
    }

    private static void promise5TheSum() {
        sentence = "Promise 5: the sum of 1 if it is COLD, 2 if it WINS, 4 if it is BETTER, 8 if it is a RECORD";
        for (int marks = 0; marks < 16; marks++) {
            boolean isRecord = (marks & 8) != 0;
            if (isRecord && (marks & 1) == 0) {
                continue;
            }
            House h = house(2);
            h.frost(0);
            // The RECORD is another clock's, less than 500 or more; the BEST is warm, so no RECORD.
            h.trial(1, isRecord ? 501 : 500, 0);
            h.trial(0, (marks & 4) != 0 ? 501 : 500, 1);
            h.prize((marks & 2) != 0 ? 500 : 499);
            due(marks, h.trial(0, 500, (marks & 1) != 0 ? 0 : 1));
            due(500, h.count(1));
        }
    }

    // ---- Promises 6 and 7

    private static void promise6LeastRate() {
        sentence = "Promise 6: the BEST becomes the least RATE of those that are left";
        int[] rates = {999, 0, -1, 5, 0, 3};
        int[] bests = {999, 0, 0, 0, 0, 0};
        House h = house(2);
        for (int rate : rates) {
            h.trial(0, rate, 0);
        }
        for (int left = 5; left > 0; left--) {
            due(left, h.annul(0));
            due(bests[left - 1], h.tell(0, 1));
        }
        for (int n = 6; n > 0; n--) {
            h.trial(1, 100 * n, 0);
        }
        for (int left = 5; left > 0; left--) {
            due(left, h.annul(1));
            due(100 * (7 - left), h.tell(1, 1));
        }
        due(999, h.tell(0, 1));
    }

    private static void promise6NoneWithoutOne() {
        sentence = "Promise 6: NONE without one";
        for (int rate : RATES) {
            House h = house(2);
            h.trial(0, rate, 0);
            h.trial(1, -1, 0);
            h.trial(1, rate, 0);
            due(0, h.annul(0));
            due(NONE, h.tell(0, 1));
            due(1, h.annul(1));
            due(NONE, h.tell(1, 1));
            due(0, h.annul(1));
            due(NONE, h.tell(1, 1));
            due(NONE, h.count(6));
            due(4, h.trial(0, 999, 0));
        }
    }

    private static void promise6TheRecordStays() {
        sentence = "Promise 6: (the RECORD stays)";
        for (int record : RATES) {
            House h = house(2);
            h.frost(99);
            due(13, h.trial(0, record, 99));
            due(0, h.annul(0));
            due(record, h.count(1));
            due(5, h.trial(0, record, 99));
            due(5, h.trial(1, record, 99));
            due(0, h.annul(1));
            due(0, h.annul(0));
            due(record, h.count(1));
        }
    }

    private static void promise6HowManyAreLeft() {
        sentence = "Promise 6: The latest TRIAL of a clock is no more: how many are left";
        for (int clock = 0; clock < 8; clock++) {
            House h = house(8);
            for (int n = 0; n < 48; n++) {
                h.trial(n % 8, n, n);
            }
            h.ask(0, 4, 4, clock, clock);
            for (int left = 5; left >= 0; left--) {
                due(left, h.annul(clock));
                due(left, h.tell(clock, 0));
                due(42 + left, h.count(4));
                due(left == 0 ? NO_CHILL : 8 * (left - 1) + clock, h.tell(clock, 6));
            }
            due(1, h.tell(clock, 3));
            due(6, h.tell((clock + 1) % 8, 0));
            due(6, h.tell((clock + 7) % 8, 0));
        }
    }

    private static void promise7FromZeroOn() {
        sentence = "Promise 7: The number of the clock that is at place k (from 0 on)";
        for (int many = 1; many <= 8; many++) {
            House h = house(many);
            due(0, h.place(0));
            due(many - 1, h.place(many - 1));
            h.trial(many - 1, 999, 0);
            due(many - 1, h.place(0));
            due(many == 1 ? 0 : many - 2, h.place(many - 1));
        }
    }

    // ---- Promise 8

    private static void promise8Trials() {
        sentence = "Promise 8: what 0: TRIALS";
        House h = house(2);
        for (int n = 0; n < 6; n++) {
            due(n, h.tell(1, 0));
            h.trial(1, -1, 100);
        }
        due(6, h.tell(1, 0));
        due(0, h.tell(0, 0));
    }

    private static void promise8BestNone() {
        sentence = "Promise 8: 1: the BEST's hundredths (NONE: NONE)";
        House h = house(3);
        due(NONE, h.tell(0, 1));
        h.trial(0, -1, 0);
        due(NONE, h.tell(0, 1));
        h.trial(0, 999, 0);
        due(999, h.tell(0, 1));
        h.trial(0, 0, 0);
        due(0, h.tell(0, 1));
        h.trial(0, 1, 0);
        due(0, h.tell(0, 1));
        due(NONE, h.tell(1, 1));
        due(NONE, h.tell(2, 1));
    }

    private static void promise8Rank() {
        sentence = "Promise 8: 2: the RANK, how many others have a BEST that is less";
        House h = house(8);
        for (int clock = 0; clock < 8; clock++) {
            h.trial(clock, 7 - clock, 0);
        }
        for (int clock = 0; clock < 8; clock++) {
            due(7 - clock, h.tell(clock, 2));
        }
        House alike = house(8);
        for (int clock = 0; clock < 8; clock++) {
            alike.trial(clock, 500, 0);
        }
        for (int clock = 0; clock < 8; clock++) {
            due(0, alike.tell(clock, 2));
        }
        alike.trial(3, 499, 0);
        due(0, alike.tell(3, 2));
        due(1, alike.tell(0, 2));
        due(1, alike.tell(7, 2));
    }

    private static void promise8RankOfNone() {
        sentence = "Promise 8: (of one whose BEST is NONE: how many have a BEST)";
        House h = house(8);
        h.trial(7, -1, 0);
        due(0, h.tell(0, 2));
        due(0, h.tell(7, 2));
        for (int clock = 0; clock < 7; clock++) {
            h.trial(clock, clock % 2 == 0 ? 999 : 0, 0);
            due(clock + 1, h.tell(7, 2));
        }
        // A BEST that is NONE is not less than any.
        due(3, h.tell(0, 2));
        due(0, h.tell(1, 2));
        h.annul(1);
        due(6, h.tell(1, 2));
        due(6, h.tell(7, 2));
        due(0, house(1).tell(0, 2));
    }

    private static void promise8Seal() {
        sentence = "Promise 8: 3: 1 if the SEAL is on, else 0";
        House h = house(8);
        for (int clock = 0; clock < 8; clock++) {
            due(0, h.tell(clock, 3));
            h.ask(0, 5, 4, clock, clock);
            due(1, h.tell(clock, 3));
        }
        for (int clock = 0; clock < 8; clock++) {
            h.ask(0, 4, 4, clock, clock);
            due(0, h.tell(clock, 3));
            due(clock == 7 ? 0 : 1, h.tell(7, 3));
        }
    }

    private static void promise8ColdAsItIsNow() {
        sentence = "Promise 8: 4: how many of its TRIALS are COLD by the FROST as it is now";
        int[] chills = {99, -99, 100, 0, -1, 1};
        int[][] coldBy = {{-99, 1}, {-98, 1}, {-2, 1}, {-1, 2}, {0, 3}, {1, 4}, {98, 4}, {99, 5}, {100, 0}};
        House h = house(3);
        h.frost(-99);
        for (int chill : chills) {
            h.trial(1, -1, chill);
        }
        for (int[] pair : coldBy) {
            due(1, h.frost(pair[0]));
            due(pair[1], h.tell(1, 4));
            due(0, h.tell(0, 4));
            due(0, h.tell(2, 4));
        }
        for (int n = 0; n < 6; n++) {
            h.trial(2, -1, 99);
        }
        due(0, h.tell(2, 4));
        h.frost(99);
        due(6, h.tell(2, 4));
        h.frost(98);
        due(0, h.tell(2, 4));
    }

    private static void promise8UpToTheFirst() {
        sentence = "Promise 8: 5: have a RATE that is more than the BEST, up to the first one that has not";
        ahead(5, 999, 998, 997, 996, 995, 0);
        ahead(0, 0, 999, 999, 999, 999, 999);
        ahead(1, 1, 0);
        ahead(1, 999, 998);
        ahead(0, 999);
        ahead(0, 0);
        ahead(0, 500, 500);
        // Those behind the first one that has not are not counted, though their RATE is more.
        ahead(2, 9, 9, 5, 9, 9, 9);
        ahead(2, 9, 9, 5, 9, 5, 9);
        House h = house(1);
        h.trial(0, 7, 0);
        h.trial(0, 5, 0);
        due(1, h.tell(0, 5));
        h.annul(0);
        due(0, h.tell(0, 5));
    }

    private static void promise8UpToTheFirstOfNone() {
        sentence = "Promise 8: 5: .. more than the BEST (a RATE that is NONE is not more, nor any than NONE)";
        ahead(0);
        ahead(0, -1);
        ahead(0, -1, -1, -1, -1, -1, -1);
        ahead(0, -1, 9, 5);
        ahead(1, 9, -1, 8, 5);
        ahead(1, 9, 5, -1);
        ahead(3, 9, 8, 7, -1, 5);
    }

    private static void ahead(int want, int... rates) {
        House h = house(2);
        h.trial(0, 0, 0);
        for (int rate : rates) {
            h.trial(1, rate, 0);
        }
        due(want, h.tell(1, 5));
    }

    private static void promise8LatestChill() {
        sentence = "Promise 8: 6: the tenths of the latest TRIAL's CHILL (100: NONE, or no TRIAL)";
        int[] chills = {-99, 99, 100, -1, 0, 1};
        House h = house(3);
        due(NO_CHILL, h.tell(1, 6));
        for (int chill : chills) {
            h.trial(1, -1, chill);
            due(chill, h.tell(1, 6));
        }
        for (int n = 5; n > 0; n--) {
            h.annul(1);
            due(chills[n - 1], h.tell(1, 6));
        }
        h.annul(1);
        due(NO_CHILL, h.tell(1, 6));
        due(NO_CHILL, h.tell(0, 6));
        due(NO_CHILL, h.tell(2, 6));
    }

    // ---- Promise 9

    private static void promise9WhatIsCompared() {
        sentence = "Promise 9: What is compared, 0: the BESTS of two clocks i, j; 1: the CHILLS of their latest TRIALS";
        // In the one house the BESTS are alike and the CHILLS are not, in the other it is the CHILLS.
        House bests = house(2);
        bests.trial(0, 0, -99);
        bests.trial(1, 0, 99);
        House chills = house(2);
        chills.trial(0, 0, -99);
        chills.trial(1, 999, -99);
        for (int sign = 0; sign <= 5; sign++) {
            allHows(bests, 0, sign, HOLDS[sign][1], HOLDS[sign][1]);
            allHows(bests, 1, sign, HOLDS[sign][0], HOLDS[sign][2]);
            allHows(chills, 0, sign, HOLDS[sign][0], HOLDS[sign][2]);
            allHows(chills, 1, sign, HOLDS[sign][1], HOLDS[sign][1]);
        }
    }

    private static void allHows(House h, int what, int sign, int there, int back) {
        due(there, h.ask(what, sign, 0, 0, 1));
        due(1 - there, h.ask(what, sign, 1, 0, 1));
        due(there + there * HOLDS[sign][1], h.ask(what, sign, 2, 0, 1));
        due(1 - there, h.ask(what, sign, 3, 0, 1));
        due(there, h.ask(what, sign, 4, 0, 1));
        due(there + back == 2 ? 1 : there + back == 1 ? 2 : 0, h.ask(what, sign, 5, 0, 1));
    }

    private static void promise9ChillNoneWithoutATrial() {
        sentence = "Promise 9: 1: the CHILLS of their latest TRIALS (NONE without a TRIAL)";
        House h = house(3);
        due(0, h.ask(1, 4, 0, 0, 1));
        due(1, h.ask(1, 5, 0, 0, 0));
        h.trial(0, 5, 0);
        due(1, h.ask(1, 5, 0, 0, 1));
        due(0, h.ask(1, 3, 0, 0, 1));
        due(0, h.ask(1, 1, 0, 1, 0));
        h.trial(1, 5, 0);
        due(1, h.ask(1, 4, 0, 0, 1));
        // The latest is what is compared, be it NONE.
        h.trial(1, 5, 100);
        due(0, h.ask(1, 4, 0, 0, 1));
        due(1, h.ask(0, 4, 0, 0, 1));
        h.annul(1);
        due(1, h.ask(1, 4, 0, 0, 1));
        h.annul(1);
        due(0, h.ask(1, 4, 0, 0, 1));
        due(1, h.ask(1, 5, 0, 1, 1));
    }

    private static void promise9SaidAndGainsaid() {
        sentence = "Promise 9: How 0: 1 if the SIGN holds of i's and j's, else 0. 1: 1 if it does not hold, else 0.";
        House h = threeKinds();
        for (int what = 0; what <= 1; what++) {
            for (int sign = 0; sign <= 5; sign++) {
                saidAndGainsaid(h, HOLDS[sign][0], what, sign, 0, 1);
                saidAndGainsaid(h, HOLDS[sign][1], what, sign, 0, 2);
                saidAndGainsaid(h, HOLDS[sign][1], what, sign, 1, 1);
                saidAndGainsaid(h, HOLDS[sign][2], what, sign, 1, 0);
                // Gainsaid is not turned about: of NONE neither less nor more or alike holds.
                saidAndGainsaid(h, sign == 5 ? 1 : 0, what, sign, 0, 3);
                saidAndGainsaid(h, sign == 5 ? 1 : 0, what, sign, 3, 0);
                saidAndGainsaid(h, sign == 5 ? 1 : 0, what, sign, 3, 3);
            }
        }
    }

    private static void saidAndGainsaid(House h, int held, int what, int sign, int i, int j) {
        due(held, h.ask(what, sign, 0, i, j));
        due(1 - held, h.ask(what, sign, 1, i, j));
    }

    private static void promise9UpToTheFirst() {
        sentence = "Promise 9: 2: how many clocks there are, from i on, .. up to the first of whose it does not";
        int[] rates = {4, 4, 5, 4, -1, 4, 6, 5};
        int[][] alikeFourFrom = {{0, 2}, {1, 1}, {2, 0}, {3, 1}, {4, 0}, {5, 1}, {6, 0}, {7, 0}};
        House h = house(8);
        for (int clock = 0; clock < 8; clock++) {
            h.trial(clock, rates[clock], rates[clock] == -1 ? 100 : -rates[clock]);
        }
        for (int what = 0; what <= 1; what++) {
            for (int[] pair : alikeFourFrom) {
                due(pair[1], h.ask(what, 4, 2, pair[0], 0));
                due(pair[1], h.ask(what, 4, 2, pair[0], 5));
            }
            due(0, h.ask(what, 4, 2, 0, 4));
            due(8, h.ask(what, 5, 2, 0, 4));
            due(2, h.ask(what, 5, 2, 0, 2));
            due(4, h.ask(what, 5, 2, 3, 2));
        }
        due(4, h.ask(0, 1, 2, 0, 2));
        due(2, h.ask(0, 0, 2, 0, 2));
        due(4, h.ask(1, 3, 2, 0, 2));
        due(2, h.ask(1, 2, 2, 0, 2));
        due(3, h.ask(0, 3, 2, 5, 5));
    }

    private static void promise9UpToTheLastClock() {
        sentence = "Promise 9: 2: how many clocks there are, from i on (where it holds of all, up to the last one)";
        for (int many = 1; many <= 8; many++) {
            House h = house(many);
            for (int i = 0; i < many; i++) {
                due(many - i, h.ask(0, 5, 2, i, many - 1));
                due(many - i, h.ask(1, 5, 2, i, 0));
                due(0, h.ask(0, 4, 2, i, i));
                h.trial(i, 0, 0);
            }
            for (int i = 0; i < many; i++) {
                due(many - i, h.ask(0, 4, 2, i, 0));
                due(many - i, h.ask(1, 1, 2, i, many - 1));
                due(0, h.ask(1, 5, 2, i, 0));
            }
        }
    }

    private static void promise9EitherOfTwo() {
        sentence = "Promise 9: 3: i if it holds, else j";
        House h = threeKinds();
        for (int what = 0; what <= 1; what++) {
            for (int sign = 0; sign <= 5; sign++) {
                due(HOLDS[sign][0] == 1 ? 0 : 1, h.ask(what, sign, 3, 0, 1));
                due(HOLDS[sign][2] == 1 ? 1 : 0, h.ask(what, sign, 3, 1, 0));
                due(HOLDS[sign][1] == 1 ? 2 : 0, h.ask(what, sign, 3, 2, 0));
                due(sign == 5 ? 3 : 0, h.ask(what, sign, 3, 3, 0));
                due(sign == 5 ? 0 : 3, h.ask(what, sign, 3, 0, 3));
                due(3, h.ask(what, sign, 3, 3, 3));
                due(0, h.ask(what, sign, 3, 0, 0));
            }
        }
        House last = house(8);
        due(7, last.ask(0, 5, 3, 7, 0));
        due(7, last.ask(0, 4, 3, 0, 7));
    }

    private static void promise9Seals() {
        sentence = "Promise 9: 4: the SEAL of i is on if it holds, else off: how many SEALS are on then";
        House h = house(8);
        for (int clock = 0; clock < 8; clock++) {
            int j = (clock + 1) % 8;
            due(clock, h.ask(0, 4, 4, clock, j));
            due(clock + 1, h.ask(0, 5, 4, clock, j));
            due(clock + 1, h.ask(1, 5, 4, clock, j));
            due(1, h.tell(clock, 3));
            due(clock == 7 ? 1 : 0, h.tell(j, 3));
        }
        for (int clock = 7; clock >= 0; clock--) {
            due(clock, h.ask(1, 4, 4, clock, 0));
            due(clock, h.ask(0, 0, 4, clock, 0));
            due(0, h.tell(clock, 3));
            due(clock == 0 ? 0 : 1, h.tell(0, 3));
        }
        // The other hows leave the SEALS as they are.
        for (int how : new int[] {0, 1, 2, 3, 5}) {
            h.ask(0, 5, how, 0, 1);
            due(0, h.count(5));
        }
    }

    private static void promise9BothWays() {
        sentence = "Promise 9: 5: 1 if it holds of i's and j's, and of j's and i's, 2 if of one of these alone, else 0";
        House h = threeKinds();
        for (int what = 0; what <= 1; what++) {
            for (int sign = 0; sign <= 5; sign++) {
                int ways = HOLDS[sign][0] + HOLDS[sign][2];
                int unlike = ways == 2 ? 1 : ways == 1 ? 2 : 0;
                due(unlike, h.ask(what, sign, 5, 0, 1));
                due(unlike, h.ask(what, sign, 5, 1, 0));
                due(HOLDS[sign][1], h.ask(what, sign, 5, 0, 2));
                due(HOLDS[sign][1], h.ask(what, sign, 5, 1, 1));
                due(sign == 5 ? 1 : 0, h.ask(what, sign, 5, 0, 3));
                due(sign == 5 ? 1 : 0, h.ask(what, sign, 5, 3, 0));
                due(sign == 5 ? 1 : 0, h.ask(what, sign, 5, 3, 3));
            }
        }
    }

    // ---- Promise 10

    private static void promise10Clocks() {
        sentence = "Promise 10: What 0: clocks";
        for (int many = 0; many <= 8; many++) {
            due(many, house(many).count(0));
        }
        House h = house(8);
        h.admit();
        due(8, h.count(0));
    }

    private static void promise10RecordNone() {
        sentence = "Promise 10: 1: the RECORD's hundredths (NONE: NONE)";
        House h = house(1);
        due(NONE, h.count(1));
        h.trial(0, 5, 0);
        due(NONE, h.count(1));
        h.frost(0);
        due(NONE, h.count(1));
        h.trial(0, -1, 0);
        due(NONE, h.count(1));
        h.trial(0, 999, 0);
        due(999, h.count(1));
        h.trial(0, 0, 0);
        due(0, h.count(1));
        h.frost(100);
        due(0, h.count(1));
    }

    private static void promise10PrizeLikewise() {
        sentence = "Promise 10: 2: the PRIZE's, likewise";
        House h = house(0);
        due(NONE, h.count(2));
        for (int rate : RATES) {
            h.prize(rate);
            due(rate, h.count(2));
            h.prize(-1);
            due(NONE, h.count(2));
        }
    }

    private static void promise10FrostNone() {
        sentence = "Promise 10: 3: the FROST's tenths (100: NONE)";
        House h = house(0);
        due(NO_CHILL, h.count(3));
        for (int chill : CHILLS) {
            h.frost(chill);
            due(chill, h.count(3));
            h.frost(100);
            due(NO_CHILL, h.count(3));
        }
    }

    private static void promise10TrialsOfAll() {
        sentence = "Promise 10: 4: TRIALS of all";
        House h = house(8);
        for (int n = 0; n < 48; n++) {
            due(n, h.count(4));
            h.trial(n / 6, -1, 100);
        }
        due(48, h.count(4));
        h.trial(0, 0, 0);
        due(48, h.count(4));
        h.annul(7);
        due(47, h.count(4));
        h.annul(0);
        due(46, h.count(4));
    }

    private static void promise10Seals() {
        sentence = "Promise 10: 5: SEALS that are on";
        House h = house(8);
        for (int clock = 7; clock >= 0; clock--) {
            due(7 - clock, h.count(5));
            h.ask(0, 5, 4, clock, 0);
        }
        due(8, h.count(5));
        h.ask(0, 5, 4, 0, 0);
        due(8, h.count(5));
        h.ask(0, 4, 4, 7, 0);
        due(7, h.count(5));
    }

    private static void promise10LeastClock() {
        sentence = "Promise 10: 6: the least clock that has a BEST than which no other one's is less";
        House h = house(8);
        h.trial(7, 999, 0);
        due(7, h.count(6));
        for (int clock = 6; clock >= 0; clock--) {
            h.trial(clock, 999, 0);
            due(clock, h.count(6));
        }
        h.trial(7, 998, 0);
        due(7, h.count(6));
        h.trial(5, 0, 0);
        h.trial(6, 0, 0);
        due(5, h.count(6));
        h.annul(5);
        due(6, h.count(6));
        h.annul(6);
        due(7, h.count(6));
        h.annul(7);
        due(0, h.count(6));
    }

    private static void promise10LeastClockNone() {
        sentence = "Promise 10: 6: (NONE: none has one)";
        due(NONE, house(0).count(6));
        for (int many = 1; many <= 8; many++) {
            House h = house(many);
            due(NONE, h.count(6));
            h.trial(many - 1, -1, 0);
            due(NONE, h.count(6));
            h.trial(many - 1, 999, 0);
            due(many - 1, h.count(6));
            h.annul(many - 1);
            due(NONE, h.count(6));
        }
    }

    // ---- scenes and checking

    /** Of bests and of chills alike: 0 and 2 are alike, 1 is more, 3 is NONE. */
    private static House threeKinds() {
        House h = house(4);
        h.trial(0, 0, -99);
        h.trial(1, 999, 99);
        h.trial(2, 0, -99);
        h.trial(3, -1, 100);
        return h;
    }

    private static House house(int clocks) {
        House h = new House();
        for (int n = 0; n < clocks; n++) {
            h.admit();
        }
        return h;
    }

    private static void order(House h, int... clocks) {
        for (int k = 0; k < clocks.length; k++) {
            due(clocks[k], h.place(k));
        }
    }

    private static void due(int want, int got) {
        if (got != want) {
            wrong++;
            System.out.println(sentence + ": " + latestCall + " answered " + got + ", due is " + want);
        }
    }

    /** An object whose calls are told and counted, as the document promises nothing beyond 512. */
    private static final class House {
        private final ChronoTrials x = new ChronoTrials();
        private int calls = 0;

        private void call(String name, int... arguments) {
            StringBuilder text = new StringBuilder(name).append('(');
            for (int n = 0; n < arguments.length; n++) {
                text.append(n == 0 ? "" : ", ").append(arguments[n]);
            }
            latestCall = text.append(')').toString();
            calls++;
            if (calls > MOST_CALLS) {
                throw new IllegalStateException("this test calls one object too often: " + sentence);
            }
        }

        int admit() {
            call("admit");
            return x.admit();
        }

        int prize(int hundredths) {
            call("prize", hundredths);
            return x.prize(hundredths) ? 1 : 0;
        }

        int frost(int tenths) {
            call("frost", tenths);
            return x.frost(tenths) ? 1 : 0;
        }

        int trial(int clock, int hundredths, int tenths) {
            call("trial", clock, hundredths, tenths);
            return x.trial(clock, hundredths, tenths);
        }

        int annul(int clock) {
            call("annul", clock);
            return x.annul(clock);
        }

        int place(int k) {
            call("place", k);
            return x.place(k);
        }

        int tell(int clock, int what) {
            call("tell", clock, what);
            return x.tell(clock, what);
        }

        int ask(int what, int sign, int how, int i, int j) {
            call("ask", what, sign, how, i, j);
            return x.ask(what, sign, how, i, j);
        }

        int count(int what) {
            call("count", what);
            return x.count(what);
        }
    }
}
