/**
 * TURN BY ODDS of part 4 (rows of 1 to 9, chances of 0 to 10 of ten, minutes 0 to 8) and promises 18 to 20 at their
 * edges. Above each test stands the sentence of the document that it would fail by.
 */
public final class EdgeOddsTests {
    private static final int BAD = Edges.BAD;
    private static final long WHOLE = 1000000000L;

    public static void main(String[] args) {
        Edges.run(EdgeOddsTests.class);
    }

    private static void due(String call, long got, long want) {
        Edges.due(call, got, want);
    }

    private static void mean(int n, int k, int x, long above, long below) {
        QueueTurns o = new QueueTurns();
        due("mean(" + n + ", " + k + ", " + x + ", 0)", o.mean(n, k, x, 0), above);
        due("mean(" + n + ", " + k + ", " + x + ", 1)", o.mean(n, k, x, 1), below);
    }

    private static void by(int n, int k, int x, int m, long above, long below) {
        QueueTurns o = new QueueTurns();
        due("by(" + n + ", " + k + ", " + x + ", " + m + ", 0)", o.by(n, k, x, m, 0), above);
        due("by(" + n + ", " + k + ", " + x + ", " + m + ", 1)", o.by(n, k, x, m, 1), below);
    }

    private static void best(int n, int x, int place, int joins) {
        QueueTurns o = new QueueTurns();
        due("best(" + n + ", " + x + ", 0)", o.best(n, x, 0), place);
        due("best(" + n + ", " + x + ", 1)", o.best(n, x, 1), joins);
    }

    private static long shared(long a, long b) {
        return b == 0 ? a : shared(b, a % b);
    }

    private static void inLowestTerms(String call, long above, long below) {
        due(call + " is 0 or more", above < 0 ? 1 : 0, 0);
        due(call + " has a part of 10 to the 9th below", below > 0 ? WHOLE % below : -1, 0);
        due(call + " in lowest terms", shared(above, below), 1);
    }

    // ---- 18 mean

    /** "in a row of n (1 to 9)" */
    static void p18_mean_rowsOf1and9() {
        mean(1, 0, 3, 0, 1);
        mean(9, 8, 0, 8, 1);
    }

    /** "in a row of n (1 to 9)" */
    static void p18_mean_rowsOf0and10_BAD() {
        QueueTurns o = new QueueTurns();
        for (int part = 0; part < 2; part++) {
            due("mean(0, 0, 5)", o.mean(0, 0, 5, part), BAD);
            due("mean(0, -1, 5)", o.mean(0, -1, 5, part), BAD);
            due("mean(10, 0, 5)", o.mean(10, 0, 5, part), BAD);
            due("mean(10, 9, 5)", o.mean(10, 9, 5, part), BAD);
            due("mean(-1, 0, 5)", o.mean(-1, 0, 5, part), BAD);
        }
        Edges.farAreBad("mean(n, 0, 5, 0)", n -> o.mean(n, 0, 5, 0));
    }

    /** "who is at place k at first": 0 to n less 1. */
    static void p18_mean_kOfEachRow() {
        for (int n = 1; n <= 9; n++) {
            for (int k = 0; k < n; k++) {
                mean(n, k, 0, k, 1);
            }
        }
    }

    /** "BAD: a number is none that is told": there is no place n, nor -1. */
    static void p18_mean_kBeside_BAD() {
        QueueTurns o = new QueueTurns();
        for (int n = 1; n <= 9; n++) {
            due("mean(" + n + ", -1)", o.mean(n, -1, 5, 0), BAD);
            due("mean(" + n + ", n)", o.mean(n, n, 5, 0), BAD);
            due("mean(" + n + ", 9)", o.mean(n, 9, 5, 1), BAD);
        }
        Edges.farAreBad("mean(9, k, 5, 0)", k -> o.mean(9, k, 5, 0));
    }

    /** "by the chance of x (0 to 10) of ten": never. */
    static void p18_mean_chanceOf0() {
        mean(9, 0, 0, 0, 1);
        mean(9, 4, 0, 4, 1);
    }

    /** "by the chance of x (0 to 10) of ten": always, so that the last, the first, the last .. are served. */
    static void p18_mean_chanceOf10() {
        for (int n = 1; n <= 9; n++) {
            for (int k = 0; k < n; k++) {
                mean(n, k, 10, Math.min(2 * (n - 1 - k), 2 * k + 1), 1);
            }
        }
    }

    /** "x (0 to 10) of ten" */
    static void p18_mean_xBeside_BAD() {
        QueueTurns o = new QueueTurns();
        due("mean(3, 0, -1)", o.mean(3, 0, -1, 0), BAD);
        due("mean(3, 0, 11)", o.mean(3, 0, 11, 0), BAD);
        Edges.farAreBad("mean(3, 0, x, 0)", x -> o.mean(3, 0, x, 0));
    }

    /** "above (part = 0), below (1)" */
    static void p18_mean_partBeside_BAD() {
        QueueTurns o = new QueueTurns();
        due("mean(3, 0, 5, -1)", o.mean(3, 0, 5, -1), BAD);
        due("mean(3, 0, 5, 2)", o.mean(3, 0, 5, 2), BAD);
        Edges.farAreBad("mean(3, 0, 5, part)", part -> o.mean(3, 0, 5, part));
    }

    /** All four at once. */
    static void p18_mean_allBeside_BAD() {
        QueueTurns o = new QueueTurns();
        due("mean(low ..)", o.mean(Edges.LOW, Edges.LOW, Edges.LOW, Edges.LOW), BAD);
        due("mean(high ..)", o.mean(Edges.HIGH, Edges.HIGH, Edges.HIGH, Edges.HIGH), BAD);
    }

    /** "then the first is served (minute 0 is the first one)" */
    static void p18_mean_minute0isTheFirst() {
        for (int x = 0; x <= 10; x++) {
            mean(1, 0, x, 0, 1);
        }
        mean(2, 0, 0, 0, 1);
        mean(2, 1, 0, 1, 1);
    }

    /** "in each minute the row turns by the chance": ahead of serving, in minute 0, too. */
    static void p18_mean_turnsInMinute0() {
        mean(2, 0, 10, 1, 1);
        mean(2, 1, 10, 0, 1);
        mean(2, 0, 3, 3, 10);
        mean(2, 1, 3, 7, 10);
    }

    /** "in lowest terms": x of ten for the first of two. */
    static void p18_mean_inLowestTerms() {
        long[][] want = {{0, 1}, {1, 10}, {1, 5}, {3, 10}, {2, 5}, {1, 2}, {3, 5}, {7, 10}, {4, 5}, {9, 10}, {1, 1}};
        for (int x = 0; x <= 10; x++) {
            mean(2, 0, x, want[x][0], want[x][1]);
        }
        mean(3, 0, 5, 3, 4);
        mean(3, 1, 5, 3, 2);
    }

    /** "in lowest terms": in all rows, and the means of a row are together those of the minutes. */
    static void p18_mean_ofAllRows() {
        for (int n = 1; n <= 9; n++) {
            for (int x = 0; x <= 10; x++) {
                QueueTurns o = new QueueTurns();
                long sum = 0;
                for (int k = 0; k < n; k++) {
                    long above = o.mean(n, k, x, 0);
                    long below = o.mean(n, k, x, 1);
                    inLowestTerms("mean(" + n + ", " + k + ", " + x + ")", above, below);
                    sum += below > 0 ? above * (WHOLE / below) : 0;
                }
                due("all means of " + n + " by " + x, sum, n * (n - 1) / 2 * WHOLE);
            }
        }
    }

    /** A short row asked for behind a long one. */
    static void p18_mean_behindALongerRow() {
        QueueTurns o = new QueueTurns();
        o.mean(9, 4, 3, 0);
        due("mean(1, 0, 3, 0)", o.mean(1, 0, 3, 0), 0);
        o.mean(9, 4, 3, 0);
        due("mean(1, 0, 3, 1)", o.mean(1, 0, 3, 1), 1);
    }

    /** "nothing changes then" */
    static void p18_mean_changesNothing() {
        Edges.changesNothing(Edges::busy, "mean(0, 0, 5, 0)", o -> o.mean(0, 0, 5, 0), BAD);
        Edges.changesNothing(Edges::busy, "mean(9, 9, 5, 0)", o -> o.mean(9, 9, 5, 0), BAD);
        Edges.changesNothing(Edges::busy, "mean(2, 0, 5, 1)", o -> o.mean(2, 0, 5, 1), 2);
    }

    // ---- 19 by

    /** "in a row of n (1 to 9)" */
    static void p19_by_rowsOf1and9() {
        by(1, 0, 3, 0, 1, 1);
        by(9, 0, 0, 0, 1, 1);
        by(9, 8, 10, 0, 1, 1);
    }

    /** "in a row of n (1 to 9)" */
    static void p19_by_rowsOf0and10_BAD() {
        QueueTurns o = new QueueTurns();
        for (int part = 0; part < 2; part++) {
            due("by(0, 0, 5, 0)", o.by(0, 0, 5, 0, part), BAD);
            due("by(10, 0, 5, 0)", o.by(10, 0, 5, 0, part), BAD);
            due("by(10, 9, 5, 0)", o.by(10, 9, 5, 0, part), BAD);
            due("by(-1, 0, 5, 0)", o.by(-1, 0, 5, 0, part), BAD);
        }
        Edges.farAreBad("by(n, 0, 5, 0, 0)", n -> o.by(n, 0, 5, 0, 0));
    }

    /** There is no place n, nor -1. */
    static void p19_by_kBeside_BAD() {
        QueueTurns o = new QueueTurns();
        for (int n = 1; n <= 9; n++) {
            due("by(" + n + ", -1)", o.by(n, -1, 5, 0, 0), BAD);
            due("by(" + n + ", n)", o.by(n, n, 5, 0, 0), BAD);
            due("by(" + n + ", 9)", o.by(n, 9, 5, 8, 1), BAD);
            due("by(" + n + ", n less 1)", o.by(n, n - 1, 10, 0, 0), 1);
        }
        Edges.farAreBad("by(9, k, 5, 0, 0)", k -> o.by(9, k, 5, 0, 0));
    }

    /** "x (0 to 10) of ten" */
    static void p19_by_xBeside_BAD() {
        QueueTurns o = new QueueTurns();
        due("by(3, 0, -1)", o.by(3, 0, -1, 0, 0), BAD);
        due("by(3, 0, 11)", o.by(3, 0, 11, 0, 0), BAD);
        Edges.farAreBad("by(3, 0, x, 0, 0)", x -> o.by(3, 0, x, 0, 0));
        by(2, 0, 0, 0, 1, 1);
        by(2, 0, 10, 0, 0, 1);
    }

    /** "at minute m (0 to 8)" */
    static void p19_by_minutes0and8() {
        by(9, 8, 0, 8, 1, 1);
        by(9, 8, 0, 7, 0, 1);
        by(9, 0, 0, 0, 1, 1);
        by(9, 1, 0, 0, 0, 1);
    }

    /** "at minute m (0 to 8)" */
    static void p19_by_mBeside_BAD() {
        QueueTurns o = new QueueTurns();
        for (int n = 1; n <= 9; n++) {
            due("by(m -1) of " + n, o.by(n, 0, 5, -1, 0), BAD);
            due("by(m 9) of " + n, o.by(n, 0, 5, 9, 0), BAD);
        }
        Edges.farAreBad("by(3, 0, 5, m, 0)", m -> o.by(3, 0, 5, m, 0));
    }

    /** "above (part = 0), below (1)" */
    static void p19_by_partBeside_BAD() {
        QueueTurns o = new QueueTurns();
        due("by(3, 0, 5, 0, -1)", o.by(3, 0, 5, 0, -1), BAD);
        due("by(3, 0, 5, 0, 2)", o.by(3, 0, 5, 0, 2), BAD);
        Edges.farAreBad("by(3, 0, 5, 0, part)", part -> o.by(3, 0, 5, 0, part));
    }

    /** All five at once. */
    static void p19_by_allBeside_BAD() {
        QueueTurns o = new QueueTurns();
        due("by(low ..)", o.by(Edges.LOW, Edges.LOW, Edges.LOW, Edges.LOW, Edges.LOW), BAD);
        due("by(high ..)", o.by(Edges.HIGH, Edges.HIGH, Edges.HIGH, Edges.HIGH, Edges.HIGH), BAD);
    }

    /** m (0 to 8) may be behind the last minute of a short row: he is served then, surely. */
    static void p19_by_mBehindTheLastMinute() {
        for (int n = 1; n <= 9; n++) {
            for (int m = n - 1; m <= 8; m++) {
                by(n, 0, 3, m, 1, 1);
                by(n, n - 1, 3, m, 1, 1);
            }
        }
    }

    /** "at minute m (0 to 8) or ahead of it": not at m alone. */
    static void p19_by_orAheadOfIt() {
        by(3, 0, 5, 0, 1, 2);
        by(3, 0, 5, 1, 3, 4);
        by(3, 0, 5, 2, 1, 1);
        by(9, 0, 0, 8, 1, 1);
    }

    /** "in lowest terms": no chance is 0 of 1, a sure one 1 of 1. */
    static void p19_by_inLowestTerms() {
        long[][] want = {{1, 1}, {9, 10}, {4, 5}, {7, 10}, {3, 5}, {1, 2}, {2, 5}, {3, 10}, {1, 5}, {1, 10}, {0, 1}};
        for (int x = 0; x <= 10; x++) {
            by(2, 0, x, 0, want[x][0], want[x][1]);
            by(3, 1, x, 0, 0, 1);
        }
    }

    /** "in lowest terms": in all rows, and by minute m m and one more are served, or all. */
    static void p19_by_ofAllRows() {
        for (int n = 1; n <= 9; n++) {
            for (int x = 0; x <= 10; x++) {
                QueueTurns o = new QueueTurns();
                for (int m = 0; m <= 8; m++) {
                    long sum = 0;
                    for (int k = 0; k < n; k++) {
                        long above = o.by(n, k, x, m, 0);
                        long below = o.by(n, k, x, m, 1);
                        inLowestTerms("by(" + n + ", " + k + ", " + x + ", " + m + ")", above, below);
                        sum += below > 0 ? above * (WHOLE / below) : 0;
                    }
                    due("all of " + n + " by " + x + " at " + m, sum, Math.min(n, m + 1) * WHOLE);
                }
            }
        }
    }

    /** A short row asked for behind a long one. */
    static void p19_by_behindALongerRow() {
        QueueTurns o = new QueueTurns();
        o.by(9, 4, 3, 8, 0);
        due("by(1, 0, 3, 8, 0)", o.by(1, 0, 3, 8, 0), 1);
        o.by(9, 4, 3, 8, 0);
        due("by(1, 0, 3, 8, 1)", o.by(1, 0, 3, 8, 1), 1);
    }

    /** "nothing changes then" */
    static void p19_by_changesNothing() {
        Edges.changesNothing(Edges::busy, "by(0, 0, 5, 0, 0)", o -> o.by(0, 0, 5, 0, 0), BAD);
        Edges.changesNothing(Edges::busy, "by(9, 0, 5, 9, 0)", o -> o.by(9, 0, 5, 9, 0), BAD);
        Edges.changesNothing(Edges::busy, "by(2, 0, 5, 0, 1)", o -> o.by(2, 0, 5, 0, 1), 2);
    }

    // ---- 20 best

    /** "in a row of n (1 to 9)" */
    static void p20_best_rowsOf1and9() {
        best(1, 0, 0, 0);
        best(1, 10, 0, 0);
        best(9, 0, 0, 0);
        best(9, 10, 8, 8);
    }

    /** "in a row of n (1 to 9)" */
    static void p20_best_rowsOf0and10_BAD() {
        QueueTurns o = new QueueTurns();
        for (int what = 0; what < 2; what++) {
            due("best(0, 5)", o.best(0, 5, what), BAD);
            due("best(10, 5)", o.best(10, 5, what), BAD);
            due("best(-1, 5)", o.best(-1, 5, what), BAD);
        }
        Edges.farAreBad("best(n, 5, 0)", n -> o.best(n, 5, 0));
    }

    /** "x (0 to 10) of ten" */
    static void p20_best_xBeside_BAD() {
        QueueTurns o = new QueueTurns();
        for (int what = 0; what < 2; what++) {
            due("best(3, -1)", o.best(3, -1, what), BAD);
            due("best(3, 11)", o.best(3, 11, what), BAD);
        }
        Edges.farAreBad("best(3, x, 1)", x -> o.best(3, x, 1));
    }

    /** "BEST PLACE (what = 0), of who joins (1)" */
    static void p20_best_whatBeside_BAD() {
        QueueTurns o = new QueueTurns();
        due("best(3, 5, -1)", o.best(3, 5, -1), BAD);
        due("best(3, 5, 2)", o.best(3, 5, 2), BAD);
        Edges.farAreBad("best(3, 5, what)", what -> o.best(3, 5, what));
        due("all three", o.best(Edges.LOW, Edges.HIGH, Edges.LOW), BAD);
    }

    /** "that of the least MEAN, the lowest": first and last are alike at 5 of ten. */
    static void p20_best_alike_theLowest() {
        for (int n = 1; n <= 9; n++) {
            due("best(" + n + ", 5, 0)", new QueueTurns().best(n, 5, 0), 0);
        }
    }

    /** "(the first if alike)" */
    static void p20_best_joinsAlike_theFirst() {
        for (int n = 1; n <= 9; n++) {
            due("best(" + n + ", 5, 1)", new QueueTurns().best(n, 5, 1), 0);
        }
    }

    /** "0 or n less 1": the least chance beside a half decides. */
    static void p20_best_besideAHalf() {
        best(2, 4, 0, 0);
        best(2, 6, 1, 1);
        best(9, 4, 0, 0);
        best(9, 6, 8, 8);
    }

    /** "that of the least MEAN, the lowest": as the means say, in all rows. */
    static void p20_best_asTheMeansSay() {
        for (int n = 1; n <= 9; n++) {
            for (int x = 0; x <= 10; x++) {
                QueueTurns o = new QueueTurns();
                int place = 0;
                for (int k = 1; k < n; k++) {
                    place = meanOf(o, n, k, x) < meanOf(o, n, place, x) ? k : place;
                }
                best(n, x, place, meanOf(o, n, n - 1, x) < meanOf(o, n, 0, x) ? n - 1 : 0);
            }
        }
    }

    private static long meanOf(QueueTurns o, int n, int k, int x) {
        long below = o.mean(n, k, x, 1);
        return below > 0 ? o.mean(n, k, x, 0) * (WHOLE / below) : -1;
    }

    /** A short row asked for behind a long one. */
    static void p20_best_behindALongerRow() {
        QueueTurns o = new QueueTurns();
        o.best(9, 10, 0);
        due("best(2, 4, 0)", o.best(2, 4, 0), 0);
        due("best(2, 6, 1)", o.best(2, 6, 1), 1);
    }

    /** "nothing changes then" */
    static void p20_best_changesNothing() {
        Edges.changesNothing(Edges::busy, "best(0, 5, 0)", o -> o.best(0, 5, 0), BAD);
        Edges.changesNothing(Edges::busy, "best(3, 11, 1)", o -> o.best(3, 11, 1), BAD);
        Edges.changesNothing(Edges::busy, "best(9, 10, 1)", o -> o.best(9, 10, 1), 8);
    }
}
