import java.util.ArrayList;
import java.util.List;
import java.util.function.ToIntFunction;

/**
 * Promises 1 to 10, one method each: ordinary inputs, the edges the document names, wrong inputs.
 * No object is called more than 512 times, since the document promises nothing beyond.
 */
public final class ChronoTrialsPromises {
    private static final int NONE = ChronoTrials.NONE;
    private static final int NO_CHILL = 100;
    private static final int[] NO_CLOCKS_OF_FOUR = {-1, 4, 7, 8, Integer.MIN_VALUE, Integer.MAX_VALUE};
    private static final int[] NO_RATES = {-2, -100, 1000, Integer.MIN_VALUE, Integer.MAX_VALUE};
    private static final int[] NO_CHILLS = {-100, 101, 999, Integer.MIN_VALUE, Integer.MAX_VALUE};

    private static int wrong = 0;

    public static void main(String[] args) {
        promise1NewObject();
        promise2Admit();
        promise3Prize();
        promise4Frost();
        promise5TrialMarks();
        promise5TrialEdges();
        promise5TrialRefused();
        promise6Annul();
        promise6AnnulRefused();
        promise7Place();
        promise8TellCountsAndBest();
        promise8TellRank();
        promise8TellColdAndRun();
        promise8TellRefused();
        promise9AskSigns();
        promise9AskHows();
        promise9AskRowsOfChills();
        promise9AskSeals();
        promise9AskRefused();
        promise10Count();
        promise10FirstOfTheBest();
        promise10CountRefused();
        objectsAreApart();
        System.out.println(wrong == 0 ? "all answers are as due" : wrong + " answers are not as due");
        if (wrong != 0) {
            System.exit(1);
        }
    }

    // ---- the promises

    private static void promise1NewObject() {
        ChronoTrials x = new ChronoTrials();
        due("new: count(0)", x.count(0), 0);
        due("new: count(1)", x.count(1), NONE);
        due("new: count(2)", x.count(2), NONE);
        due("new: count(3)", x.count(3), NO_CHILL);
        due("new: count(4)", x.count(4), 0);
        due("new: count(5)", x.count(5), 0);
        due("new: count(6)", x.count(6), NONE);
        due("new: place(0)", x.place(0), NONE);
        due("new: trial(0, 1, 1)", x.trial(0, 1, 1), NONE);
        due("new: annul(0)", x.annul(0), NONE);
        for (int what = 0; what <= 6; what++) {
            due("new: tell(0, " + what + ")", x.tell(0, what), NONE);
        }
        for (int how = 0; how <= 5; how++) {
            due("new: ask(0, 5, " + how + ", 0, 0)", x.ask(0, 5, how, 0, 0), NONE);
        }
        due("NONE", NONE, -1);
    }

    private static void promise2Admit() {
        ChronoTrials x = new ChronoTrials();
        for (int n = 0; n < 8; n++) {
            due("admit: the next", x.admit(), n);
            due("admit: count(0)", x.count(0), n + 1);
            due("admit: no trials", x.tell(n, 0), 0);
            due("admit: no best", x.tell(n, 1), NONE);
            due("admit: no seal", x.tell(n, 3), 0);
            due("admit: no chill", x.tell(n, 6), NO_CHILL);
        }
        due("admit: a ninth", x.admit(), NONE);
        due("admit: a ninth again", x.admit(), NONE);
        due("admit: count(0) after refusals", x.count(0), 8);
        due("admit: tell(8, 0)", x.tell(8, 0), NONE);
        due("admit: trial of the eighth", x.trial(7, 0, 0), 4);
        due("admit: trial of a ninth", x.trial(8, 0, 0), NONE);
        refused("admit of a ninth", ChronoTrialsPromises::fullHouse, y -> y.admit(), NONE);
    }

    private static void promise3Prize() {
        for (int rate : new int[] {0, 1, 500, 998, 999, -1}) {
            ChronoTrials x = clocks(1);
            x.prize(77);
            due("prize(" + rate + ")", one(x.prize(rate)), 1);
            due("prize(" + rate + "): count(2)", x.count(2), rate);
            due("prize(" + rate + "): count(3)", x.count(3), NO_CHILL);
            due("prize(" + rate + "): count(1)", x.count(1), NONE);
        }
        for (int rate : NO_RATES) {
            refused("prize(" + rate + ")", ChronoTrialsPromises::scene, y -> one(y.prize(rate)), 0);
        }
    }

    private static void promise4Frost() {
        for (int chill : new int[] {-99, -98, -2, -1, 0, 1, 98, 99, 100}) {
            ChronoTrials x = clocks(1);
            x.frost(7);
            due("frost(" + chill + ")", one(x.frost(chill)), 1);
            due("frost(" + chill + "): count(3)", x.count(3), chill);
            due("frost(" + chill + "): count(2)", x.count(2), NONE);
        }
        for (int chill : NO_CHILLS) {
            refused("frost(" + chill + ")", ChronoTrialsPromises::scene, y -> one(y.frost(chill)), 0);
        }
    }

    private static void promise5TrialMarks() {
        ChronoTrials x = clocks(2);
        due("trial: no prize, no frost", x.trial(0, 500, 0), 4);
        x.prize(400);
        x.frost(-10);
        due("trial: all four", x.trial(0, 400, -10), 15);
        due("trial: record and best are alike", x.trial(0, 400, -10), 3);
        due("trial: a hundredth over the prize, a tenth over the frost", x.trial(0, 401, -9), 0);
        due("trial: a hundredth less, not cold, no record", x.trial(0, 399, -9), 6);
        due("trial: cold, betters the record but not the best", x.trial(0, 399, -99), 11);
        due("trial: record now", x.count(1), 399);
        due("trial: the other clock's own best, the house's record", x.trial(1, 399, -11), 7);
        due("trial: worse than the record, better than nothing", x.tell(1, 1), 399);
        due("trial: record stays when alike", x.count(1), 399);
        due("trial: one more betters both", x.trial(1, 398, -11), 15);
        due("trial: the first clock's best is its own", x.tell(0, 1), 399);
        due("trial: the house's record", x.count(1), 398);
    }

    private static void promise5TrialEdges() {
        ChronoTrials x = clocks(3);
        x.prize(0);
        x.frost(-99);
        due("trial: stopped", x.trial(0, -1, -99), 1);
        due("trial: stopped leaves no best", x.tell(0, 1), NONE);
        due("trial: stopped leaves no record", x.count(1), NONE);
        due("trial: stopped and not read", x.trial(0, -1, 100), 0);
        due("trial: 999 at 99", x.trial(0, 999, 99), 4);
        due("trial: 999 at -99", x.trial(0, 999, -99), 9);
        due("trial: 0 not read", x.trial(0, 0, 100), 6);
        due("trial: stopped keeps the best", x.trial(0, -1, -99), 1);
        due("trial: best", x.tell(0, 1), 0);
        due("trial: record", x.count(1), 999);
        x.frost(99);
        due("trial: not read is not cold by any frost", x.trial(1, 5, 100), 4);
        due("trial: 99 is cold by 99", x.trial(1, 5, 99), 9);
        due("trial: -1 is a chill", x.trial(1, -1, -1), 1);
        x.frost(-1);
        due("trial: -1 is cold by -1", x.trial(1, 0, -1), 15);
        due("trial: 0 is not cold by -1", x.trial(1, 0, 0), 2);
        x.frost(100);
        x.prize(-1);
        due("trial: without prize and frost nothing wins or is cold", x.trial(2, 0, -99), 4);
        due("trial: stopped wins nothing without a prize", x.trial(2, -1, 100), 0);
        x.prize(999);
        due("trial: stopped wins nothing with a prize", x.trial(2, -1, 0), 0);
    }

    private static void promise5TrialRefused() {
        for (int clock : NO_CLOCKS_OF_FOUR) {
            refused("trial(" + clock + ", 1, 1)", ChronoTrialsPromises::scene, y -> y.trial(clock, 1, -99), NONE);
        }
        for (int rate : NO_RATES) {
            refused("trial(0, " + rate + ", 1)", ChronoTrialsPromises::scene, y -> y.trial(0, rate, -99), NONE);
        }
        for (int chill : NO_CHILLS) {
            refused("trial(0, 1, " + chill + ")", ChronoTrialsPromises::scene, y -> y.trial(0, 0, chill), NONE);
        }
        refused("a seventh trial", ChronoTrialsPromises::fullHouse, y -> y.trial(0, 0, -99), NONE);
        refused("a seventh trial of the last", ChronoTrialsPromises::fullHouse, y -> y.trial(7, 0, -99), NONE);
        ChronoTrials x = clocks(2);
        for (int n = 0; n < 6; n++) {
            due("trial: one of six", x.trial(0, 900 - n, n), 4);
        }
        due("trial: the seventh", x.trial(0, 1, 1), NONE);
        due("trial: the other clock has room", x.trial(1, 950, 50), 4);
        due("trial: the last of the first clock", x.tell(0, 6), 5);
        due("trial: annul makes room", x.annul(0), 5);
        due("trial: the sixth again", x.trial(0, 1, 1), 4);
        due("trial: and no more", x.trial(0, 0, 1), NONE);
    }

    private static void promise6Annul() {
        ChronoTrials x = clocks(2);
        x.frost(99);
        x.trial(0, 600, 6);
        x.trial(0, 400, 4);
        x.trial(0, -1, 1);
        x.trial(0, 400, 40);
        x.trial(0, 300, 3);
        x.trial(0, 500, 5);
        x.trial(1, 200, 2);
        x.ask(0, 5, 4, 0, 1);
        due("annul: 5 left", x.annul(0), 5);
        due("annul: best stays", x.tell(0, 1), 300);
        due("annul: 4 left", x.annul(0), 4);
        due("annul: best is the least left", x.tell(0, 1), 400);
        due("annul: latest chill", x.tell(0, 6), 40);
        due("annul: 3 left", x.annul(0), 3);
        due("annul: best alike is left", x.tell(0, 1), 400);
        due("annul: 2 left", x.annul(0), 2);
        due("annul: 1 left", x.annul(0), 1);
        due("annul: best of one", x.tell(0, 1), 600);
        due("annul: 0 left", x.annul(0), 0);
        due("annul: no best", x.tell(0, 1), NONE);
        due("annul: no chill", x.tell(0, 6), NO_CHILL);
        due("annul: none left", x.annul(0), NONE);
        due("annul: the seal stays", x.tell(0, 3), 1);
        due("annul: the other clock stays", x.tell(1, 1), 200);
        due("annul: the other's", x.annul(1), 0);
        due("annul: the record stays", x.count(1), 200);
        due("annul: alike to the record is no record", x.trial(1, 200, 2), 5);
        x.trial(0, -1, 0);
        x.trial(0, 0, 0);
        due("annul: down to a stopped one", x.annul(0), 1);
        due("annul: a stopped one alone is no best", x.tell(0, 1), NONE);
    }

    private static void promise6AnnulRefused() {
        for (int clock : NO_CLOCKS_OF_FOUR) {
            refused("annul(" + clock + ")", ChronoTrialsPromises::scene, y -> y.annul(clock), NONE);
        }
        refused("annul without a trial", () -> clocks(2), y -> y.annul(1), NONE);
    }

    private static void promise7Place() {
        ChronoTrials x = clocks(8);
        places("all without a best", x, 0, 1, 2, 3, 4, 5, 6, 7);
        x.trial(7, 999, 0);
        places("one with the worst best", x, 7, 0, 1, 2, 3, 4, 5, 6);
        x.trial(3, 0, 0);
        x.trial(5, 500, 0);
        x.trial(2, 500, 0);
        x.trial(0, -1, 0);
        places("alike by number, none behind", x, 3, 2, 5, 7, 0, 1, 4, 6);
        x.trial(7, 0, 0);
        places("alike at 0", x, 3, 7, 2, 5, 0, 1, 4, 6);
        x.annul(3);
        places("after annul", x, 7, 2, 5, 0, 1, 3, 4, 6);
        for (int k : new int[] {-1, 8, 9, Integer.MIN_VALUE, Integer.MAX_VALUE}) {
            due("place(" + k + ")", x.place(k), NONE);
        }
        ChronoTrials y = clocks(3);
        due("place(2) of 3", y.place(2), 2);
        due("place(3) of 3", y.place(3), NONE);
    }

    private static void promise8TellCountsAndBest() {
        ChronoTrials x = clocks(2);
        x.trial(0, 10, -1);
        x.trial(0, 20, 100);
        tells("two trials", x, 0, 2, 10, 0, 0, 0, 0, 100);
        tells("no trial", x, 1, 0, NONE, 1, 0, 0, 0, 100);
        x.trial(0, -1, -1);
        due("tell: a chill of -1", x.tell(0, 6), -1);
        x.trial(0, 0, -99);
        tells("four trials", x, 0, 4, 0, 0, 0, 0, 2, -99);
        x.ask(0, 4, 4, 0, 0);
        due("tell: the seal", x.tell(0, 3), 1);
        due("tell: the other's seal", x.tell(1, 3), 0);
    }

    private static void promise8TellRank() {
        ChronoTrials x = clocks(6);
        x.trial(0, 50, 0);
        x.trial(1, 30, 0);
        x.trial(2, 30, 0);
        x.trial(4, 999, 0);
        x.trial(5, -1, 0);
        due("rank: 50", x.tell(0, 2), 2);
        due("rank: 30", x.tell(1, 2), 0);
        due("rank: 30 too", x.tell(2, 2), 0);
        due("rank: no trial", x.tell(3, 2), 4);
        due("rank: 999", x.tell(4, 2), 3);
        due("rank: stopped", x.tell(5, 2), 4);
        x.annul(2);
        due("rank: fewer bests", x.tell(2, 2), 3);
        due("rank: alone without a best", clocks(1).tell(0, 2), 0);
    }

    private static void promise8TellColdAndRun() {
        ChronoTrials x = clocks(2);
        x.trial(0, 9, -99);
        x.trial(0, 8, 0);
        x.trial(0, 7, 100);
        x.trial(0, 6, 99);
        x.trial(0, 7, -1);
        due("cold: no frost", x.tell(0, 4), 0);
        x.frost(-99);
        due("cold: by -99", x.tell(0, 4), 1);
        x.frost(-1);
        due("cold: by -1", x.tell(0, 4), 2);
        x.frost(98);
        due("cold: by 98", x.tell(0, 4), 3);
        x.frost(99);
        due("cold: by 99", x.tell(0, 4), 4);
        x.frost(100);
        due("cold: no frost again", x.tell(0, 4), 0);
        due("run: up to the best", x.tell(0, 5), 3);
        x.annul(0);
        x.annul(0);
        due("run: after annul", x.tell(0, 5), 2);
        x.trial(1, 9, 0);
        x.trial(1, -1, 0);
        x.trial(1, 8, 0);
        due("run: a stopped one ends it", x.tell(1, 5), 1);
        ChronoTrials y = clocks(3);
        y.trial(0, -1, 0);
        y.trial(0, 5, 0);
        y.trial(0, 4, 0);
        due("run: stopped first", y.tell(0, 5), 0);
        y.trial(1, -1, 0);
        due("run: stopped alone", y.tell(1, 5), 0);
        due("run: no trial", y.tell(2, 5), 0);
        y.trial(2, 5, 0);
        y.trial(2, 5, 0);
        due("run: alike is not more", y.tell(2, 5), 0);
        for (int n = 0; n < 4; n++) {
            y.trial(2, 4 - n, 0);
        }
        due("run: five ahead of the sixth", y.tell(2, 5), 5);
    }

    private static void promise8TellRefused() {
        ChronoTrials x = scene();
        for (int what : new int[] {-1, 7, 8, Integer.MIN_VALUE, Integer.MAX_VALUE}) {
            due("tell(0, " + what + ")", x.tell(0, what), NONE);
        }
        for (int clock : NO_CLOCKS_OF_FOUR) {
            for (int what = 0; what <= 6; what++) {
                due("tell(" + clock + ", " + what + ")", x.tell(clock, what), NONE);
            }
        }
    }

    // Clocks 0 and 3 are alike, 1 is more, 2 has neither: of bests and of chills.
    private static void promise9AskSigns() {
        int[][] pairs = {{0, 1}, {1, 0}, {0, 3}, {0, 2}, {2, 0}, {2, 2}, {0, 0}};
        int[][] holds = {
            {1, 0, 0, 0, 0, 0, 0},
            {1, 0, 1, 0, 0, 0, 1},
            {0, 1, 0, 0, 0, 0, 0},
            {0, 1, 1, 0, 0, 0, 1},
            {0, 0, 1, 0, 0, 0, 1},
            {1, 1, 0, 1, 1, 1, 0},
        };
        for (int what = 0; what <= 1; what++) {
            ChronoTrials x = quartet();
            for (int sign = 0; sign <= 5; sign++) {
                for (int p = 0; p < pairs.length; p++) {
                    int i = pairs[p][0];
                    int j = pairs[p][1];
                    String of = what + ", " + sign + " of " + i + ", " + j;
                    int held = holds[sign][p];
                    due("said " + of, x.ask(what, sign, 0, i, j), held);
                    due("gainsaid " + of, x.ask(what, sign, 1, i, j), 1 - held);
                    due("either " + of, x.ask(what, sign, 3, i, j), held == 1 ? i : j);
                }
            }
        }
    }

    private static void promise9AskHows() {
        // Of sign 0 to 5, for the pairs 0,1 / 0,3 / 0,2 / 2,2: said both ways, one way, or neither.
        int[][] ways = {{2, 0, 0, 0}, {2, 1, 0, 0}, {2, 0, 0, 0}, {2, 1, 0, 0}, {0, 1, 0, 0}, {1, 0, 1, 1}};
        // Of sign 0 to 5, how many clocks from 0 on against 0, 1, 2, 3, and from 3 on against 1.
        int[][] rows = {
            {0, 1, 0, 0, 1}, {1, 2, 0, 1, 1}, {0, 0, 0, 0, 0}, {2, 0, 0, 2, 0}, {1, 0, 0, 1, 0}, {0, 1, 4, 0, 1},
        };
        int[][] pairs = {{0, 1}, {0, 3}, {0, 2}, {2, 2}};
        for (int what = 0; what <= 1; what++) {
            ChronoTrials x = quartet();
            for (int sign = 0; sign <= 5; sign++) {
                for (int p = 0; p < pairs.length; p++) {
                    String of = what + ", " + sign + " of " + pairs[p][0] + ", " + pairs[p][1];
                    due("both ways " + of, x.ask(what, sign, 5, pairs[p][0], pairs[p][1]), ways[sign][p]);
                    due("both ways back " + of, x.ask(what, sign, 5, pairs[p][1], pairs[p][0]), ways[sign][p]);
                }
                for (int j = 0; j < 4; j++) {
                    due("row " + what + ", " + sign + " against " + j, x.ask(what, sign, 2, 0, j), rows[sign][j]);
                }
                due("row " + what + ", " + sign + " from 3 on", x.ask(what, sign, 2, 3, 1), rows[sign][4]);
            }
        }
    }

    private static void promise9AskRowsOfChills() {
        ChronoTrials x = clocks(8);
        due("row: eight without a best are unlike", x.ask(0, 5, 2, 0, 7), 8);
        due("row: from the last one on", x.ask(1, 5, 2, 7, 0), 1);
        for (int n = 0; n < 8; n++) {
            x.trial(n, 5, -1);
        }
        due("row: chills of -1 are alike", x.ask(1, 4, 2, 0, 7), 8);
        x.trial(4, 6, 100);
        due("row: the latest chill counts", x.ask(1, 4, 2, 0, 7), 4);
        due("row: the bests are alike still", x.ask(0, 4, 2, 0, 7), 8);
        x.trial(5, 4, -99);
        due("row: -99 is less than -1", x.ask(1, 0, 0, 5, 7), 1);
        due("row: 4 is less than 5", x.ask(0, 0, 0, 5, 7), 1);
        x.annul(4);
        due("row: the one before it counts again", x.ask(1, 3, 2, 0, 5), 8);
        x.annul(4);
        due("row: no trial ends it", x.ask(1, 3, 2, 0, 5), 4);
        due("row: no best ends it", x.ask(0, 3, 2, 0, 5), 4);
    }

    private static void promise9AskSeals() {
        ChronoTrials x = quartet();
        due("seal of 0 on", x.ask(0, 0, 4, 0, 1), 1);
        due("seal of 0: on", x.tell(0, 3), 1);
        due("seal of 1, not j's", x.tell(1, 3), 0);
        due("seal of 2 on", x.ask(0, 5, 4, 2, 2), 2);
        due("seal of 3 on", x.ask(1, 4, 4, 3, 0), 3);
        due("seal of 3 on once more", x.ask(1, 4, 4, 3, 0), 3);
        due("seals: count(5)", x.count(5), 3);
        due("seal of 0 off", x.ask(0, 2, 4, 0, 1), 2);
        due("seal of 0: off", x.tell(0, 3), 0);
        due("seal of 0 off once more", x.ask(0, 0, 4, 0, 2), 2);
        due("seal of 2 off", x.ask(0, 4, 4, 2, 2), 1);
        due("other hows leave seals alone", x.ask(0, 5, 0, 0, 1) + x.ask(0, 5, 5, 0, 1), 2);
        due("seals: count(5) at last", x.count(5), 1);
        due("seal of 3 stays", x.tell(3, 3), 1);
    }

    private static void promise9AskRefused() {
        int[] noWhats = {-1, 2, Integer.MIN_VALUE, Integer.MAX_VALUE};
        int[] noSigns = {-1, 6, Integer.MIN_VALUE, Integer.MAX_VALUE};
        for (int how = 0; how <= 5; how++) {
            int h = how;
            for (int what : noWhats) {
                refused("ask: what " + what, ChronoTrialsPromises::scene, y -> y.ask(what, 5, h, 1, 0), NONE);
            }
            for (int sign : noSigns) {
                refused("ask: sign " + sign, ChronoTrialsPromises::scene, y -> y.ask(0, sign, h, 1, 0), NONE);
            }
            for (int clock : NO_CLOCKS_OF_FOUR) {
                refused("ask: i " + clock, ChronoTrialsPromises::scene, y -> y.ask(0, 5, h, clock, 0), NONE);
                refused("ask: j " + clock, ChronoTrialsPromises::scene, y -> y.ask(0, 5, h, 1, clock), NONE);
            }
        }
        for (int how : noSigns) {
            refused("ask: how " + how, ChronoTrialsPromises::scene, y -> y.ask(0, 5, how, 1, 0), NONE);
        }
    }

    private static void promise10Count() {
        ChronoTrials x = clocks(3);
        x.prize(0);
        x.frost(-99);
        x.trial(0, 999, -99);
        x.trial(0, 0, 99);
        x.trial(2, -1, 100);
        due("count: clocks", x.count(0), 3);
        due("count: record", x.count(1), 999);
        due("count: prize", x.count(2), 0);
        due("count: frost", x.count(3), -99);
        due("count: trials", x.count(4), 3);
        due("count: seals", x.count(5), 0);
        x.annul(0);
        due("count: trials after annul", x.count(4), 2);
        x.trial(1, 0, -99);
        due("count: record of 0", x.count(1), 0);
        x.prize(-1);
        x.frost(-1);
        due("count: no prize", x.count(2), NONE);
        due("count: frost of -1", x.count(3), -1);
        x.frost(100);
        due("count: no frost", x.count(3), NO_CHILL);
        ChronoTrials full = fullHouse();
        due("count: 48 trials", full.count(4), 48);
        for (int n = 0; n < 8; n++) {
            full.ask(0, 4, 4, n, n);
        }
        due("count: 8 seals", full.count(5), 8);
    }

    private static void promise10FirstOfTheBest() {
        ChronoTrials x = clocks(4);
        due("first: none has a best", x.count(6), NONE);
        x.trial(0, -1, 0);
        due("first: a stopped one has none", x.count(6), NONE);
        x.trial(3, 999, 0);
        due("first: the only one", x.count(6), 3);
        x.trial(2, 999, 0);
        due("first: alike, the least number", x.count(6), 2);
        x.trial(3, 998, 0);
        due("first: less", x.count(6), 3);
        x.trial(0, 0, 0);
        due("first: 0 is the least", x.count(6), 0);
        x.annul(0);
        x.annul(3);
        due("first: after annul", x.count(6), 2);
    }

    private static void promise10CountRefused() {
        ChronoTrials x = scene();
        for (int what : new int[] {-1, 7, 8, Integer.MIN_VALUE, Integer.MAX_VALUE}) {
            due("count(" + what + ")", x.count(what), NONE);
        }
    }

    private static void objectsAreApart() {
        ChronoTrials x = scene();
        ChronoTrials fresh = new ChronoTrials();
        due("apart: clocks", fresh.count(0), 0);
        due("apart: prize", fresh.count(2), NONE);
        fresh.admit();
        fresh.trial(0, 0, 0);
        due("apart: the first object's best", x.tell(0, 1), 300);
    }

    // ---- scenes

    private static ChronoTrials clocks(int many) {
        ChronoTrials x = new ChronoTrials();
        for (int n = 0; n < many; n++) {
            x.admit();
        }
        return x;
    }

    private static ChronoTrials quartet() {
        ChronoTrials x = clocks(4);
        x.trial(0, 301, 12);
        x.trial(1, 302, 13);
        x.trial(2, -1, 100);
        x.trial(3, 301, 12);
        return x;
    }

    private static ChronoTrials scene() {
        ChronoTrials x = clocks(4);
        x.prize(350);
        x.frost(10);
        x.trial(0, 400, 20);
        x.trial(0, 300, 10);
        x.trial(0, 320, -1);
        x.trial(1, 310, 5);
        x.trial(2, -1, 100);
        x.ask(0, 0, 4, 0, 1);
        return x;
    }

    private static ChronoTrials fullHouse() {
        ChronoTrials x = clocks(8);
        x.prize(350);
        x.frost(10);
        for (int n = 0; n < 48; n++) {
            x.trial(n % 8, 900 - 7 * n, n);
        }
        return x;
    }

    // ---- checking

    private interface Maker {
        ChronoTrials make();
    }

    private static void refused(String call, Maker maker, ToIntFunction<ChronoTrials> asked, int answer) {
        ChronoTrials x = maker.make();
        due(call + " (refused)", asked.applyAsInt(x), answer);
        List<Integer> left = allThatCanBeSeen(x);
        if (!left.equals(allThatCanBeSeen(maker.make()))) {
            wrong++;
            System.out.println(call + " is refused and yet changes the state");
        }
    }

    /** Looks at all there is to see, and then behind it, by taking trial after trial away. */
    private static List<Integer> allThatCanBeSeen(ChronoTrials x) {
        List<Integer> seen = new ArrayList<>();
        for (int what = 0; what <= 6; what++) {
            seen.add(x.count(what));
        }
        for (int clock = 0; clock < 8; clock++) {
            seen.add(x.place(clock));
            for (int what = 0; what <= 6; what++) {
                seen.add(x.tell(clock, what));
            }
            for (int n = 0; n < 6; n++) {
                seen.add(x.annul(clock));
                seen.add(x.tell(clock, 1));
                seen.add(x.tell(clock, 6));
            }
        }
        seen.add(x.admit());
        return seen;
    }

    private static void places(String when, ChronoTrials x, int... order) {
        for (int k = 0; k < order.length; k++) {
            due("place(" + k + "), " + when, x.place(k), order[k]);
        }
    }

    private static void tells(String when, ChronoTrials x, int clock, int... answers) {
        for (int what = 0; what < answers.length; what++) {
            due("tell(" + clock + ", " + what + "), " + when, x.tell(clock, what), answers[what]);
        }
    }

    private static int one(boolean answer) {
        return answer ? 1 : 0;
    }

    private static void due(String call, int got, int want) {
        if (got != want) {
            wrong++;
            System.out.println(call + " answered " + got + ", due is " + want);
        }
    }
}
