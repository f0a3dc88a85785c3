/**
 * SEEN names, mornings by draws and KEPT cries of part 4, and promises 21 to 27 at their edges.
 * Above each test stands the sentence of the document that it would fail by.
 */
public final class EdgeNamesTests {
    private static final int BAD = Edges.BAD, NO = Edges.NO, FULL = Edges.FULL, NONE = Edges.NONE;
    private static final int SERVED = 0, STOOD = 1, UNSEEN = 10;

    public static void main(String[] args) {
        Edges.run(EdgeNamesTests.class);
    }

    private static void due(String call, long got, long want) {
        Edges.due(call, got, want);
    }

    private static void names(QueueTurns x, int which, int... names) {
        for (int v : names) {
            int many = x.count(which == SERVED ? 4 : 5);
            due("name(" + which + ", " + v + ")", x.name(which, v), many + 1);
        }
    }

    private static QueueTurns seen(int[] stood, int... served) {
        QueueTurns x = new QueueTurns();
        names(x, STOOD, stood);
        names(x, SERVED, served);
        return x;
    }

    private static void fit(QueueTurns x, int many, int lowest) {
        due("fits(0)", x.fits(0), many);
        due("fits(1)", x.fits(1), lowest);
    }

    private static int[] upTo(int n) {
        int[] names = new int[n];
        for (int v = 0; v < n; v++) {
            names[v] = v;
        }
        return names;
    }

    // ---- 21 name

    /** "the row of those served (0; ..), of how they stood (1)" */
    static void p21_name_whichBesideThem_BAD() {
        QueueTurns x = new QueueTurns();
        due("name(-1, 0)", x.name(-1, 0), BAD);
        due("name(2, 0)", x.name(2, 0), BAD);
        Edges.farAreBad("name(which, 0)", which -> x.name(which, 0));
        due("served", x.count(4), 0);
        due("stood", x.count(5), 0);
        due("name(0, 0)", x.name(0, 0), 1);
        due("name(1, 0)", x.name(1, 0), 1);
    }

    /** "A name (0 to 9)" */
    static void p21_name_0and9() {
        for (int which = 0; which < 2; which++) {
            QueueTurns x = new QueueTurns();
            due("name(" + which + ", 0)", x.name(which, 0), 1);
            due("name(" + which + ", 9)", x.name(which, 9), 2);
        }
    }

    /** "A name (0 to 9)"; "(0; 10, too": of those served 11 is the first that is none. */
    static void p21_name_vBesideThoseServed_BAD() {
        QueueTurns x = new QueueTurns();
        due("name(0, -1)", x.name(SERVED, -1), BAD);
        due("name(0, 11)", x.name(SERVED, 11), BAD);
        Edges.farAreBad("name(0, v)", v -> x.name(SERVED, v));
        due("served", x.count(4), 0);
    }

    /** "A name (0 to 9)": of those who stood 10 is the first that is none. */
    static void p21_name_vBesideThoseWhoStood_BAD() {
        QueueTurns x = new QueueTurns();
        due("name(1, -1)", x.name(STOOD, -1), BAD);
        due("name(1, 10)", x.name(STOOD, UNSEEN), BAD);
        due("name(1, 11)", x.name(STOOD, 11), BAD);
        Edges.farAreBad("name(1, v)", v -> x.name(STOOD, v));
        due("stood", x.count(5), 0);
    }

    /** "(0; 10, too, again and again)" */
    static void p21_name_unseenAgainAndAgain() {
        QueueTurns x = new QueueTurns();
        for (int many = 1; many <= 9; many++) {
            due("name(0, 10)", x.name(SERVED, UNSEEN), many);
        }
    }

    /** "NO: it is in it": "(each once in a row)". */
    static void p21_name_twice_NO() {
        for (int which = 0; which < 2; which++) {
            for (int v = 0; v <= 9; v++) {
                QueueTurns x = new QueueTurns();
                x.name(which, v);
                due("name(" + which + ", " + v + ")", x.name(which, v), NO);
                due("many", x.count(4) + x.count(5), 1);
            }
        }
    }

    /** "NO: it is in it": the first and the last of nine. */
    static void p21_name_firstAndLastOf9_NO() {
        for (int which = 0; which < 2; which++) {
            QueueTurns x = new QueueTurns();
            names(x, which, 9, 1, 2, 3, 4, 5, 6, 7);
            due("the first", x.name(which, 9), NO);
            due("the last", x.name(which, 7), NO);
            due("another", x.name(which, 8), 9);
        }
    }

    /** "each once in a row": it may be in the other one. */
    static void p21_name_inTheOtherRow() {
        QueueTurns x = new QueueTurns();
        due("name(0, 4)", x.name(SERVED, 4), 1);
        due("name(1, 4)", x.name(STOOD, 4), 1);
    }

    /** "how they stood at first (9 at most)": "FULL (9)". */
    static void p21_name_the9thAndThe10thWhoStood() {
        QueueTurns x = new QueueTurns();
        names(x, STOOD, 0, 1, 2, 3, 4, 5, 6, 7, 8);
        due("the 10th", x.name(STOOD, 9), FULL);
        due("stood", x.count(5), 9);
        due("there is room among those served", x.name(SERVED, 9), 1);
    }

    /** "FULL (9)": of those served, too, be the name one or 10. */
    static void p21_name_the9thAndThe10thServed() {
        QueueTurns x = new QueueTurns();
        names(x, SERVED, 0, 1, 2, 3, 4, 5, 6, 7, 8);
        due("the 10th", x.name(SERVED, 9), FULL);
        due("one that nobody saw", x.name(SERVED, UNSEEN), FULL);
        due("served", x.count(4), 9);
        due("there is room among those who stood", x.name(STOOD, 9), 1);
    }

    /** "Of several the first in this order": BAD is ahead of NO. */
    static void p21_name_BADaheadOfNO() {
        QueueTurns x = new QueueTurns();
        x.name(SERVED, 4);
        x.name(STOOD, 4);
        due("name(2, 4)", x.name(2, 4), BAD);
        due("name(-1, 4)", x.name(-1, 4), BAD);
    }

    /** "Of several the first in this order": BAD is ahead of FULL. */
    static void p21_name_BADaheadOfFULL() {
        QueueTurns x = Edges.full();
        due("name(1, 10)", x.name(STOOD, UNSEEN), BAD);
        due("name(1, -1)", x.name(STOOD, -1), BAD);
        due("name(0, 11)", x.name(SERVED, 11), BAD);
        due("name(0, -1)", x.name(SERVED, -1), BAD);
        due("name(2, 9)", x.name(2, 9), BAD);
        due("name(-1, 9)", x.name(-1, 9), BAD);
    }

    /** "Of several the first in this order": NO is ahead of FULL. */
    static void p21_name_NOaheadOfFULL() {
        QueueTurns x = Edges.full();
        due("name(1, 8)", x.name(STOOD, 8), NO);
        due("name(0, 8)", x.name(SERVED, 8), NO);
        due("name(1, 9)", x.name(STOOD, 9), FULL);
        due("name(0, 9)", x.name(SERVED, 9), FULL);
        due("name(0, 10), in it though", x.name(SERVED, UNSEEN), FULL);
    }

    /** "nothing changes then" */
    static void p21_name_BAD_changesNothing() {
        Edges.changesNothing(Edges::busy, "name(2, 5)", x -> x.name(2, 5), BAD);
        Edges.changesNothing(Edges::busy, "name(0, 11)", x -> x.name(SERVED, 11), BAD);
        Edges.changesNothing(Edges::busy, "name(1, 10)", x -> x.name(STOOD, UNSEEN), BAD);
        Edges.changesNothing(Edges::busy, "name(1, -1)", x -> x.name(STOOD, -1), BAD);
    }

    /** "nothing changes then" */
    static void p21_name_NO_changesNothing() {
        Edges.changesNothing(Edges::busy, "name(1, 7)", x -> x.name(STOOD, 7), NO);
        Edges.changesNothing(Edges::busy, "name(0, 0)", x -> x.name(SERVED, 0), NO);
    }

    /** "nothing changes then" */
    static void p21_name_FULL_changesNothing() {
        Edges.changesNothing(Edges::full, "name(1, 9)", x -> x.name(STOOD, 9), FULL);
        Edges.changesNothing(Edges::full, "name(0, 10)", x -> x.name(SERVED, UNSEEN), FULL);
    }

    // ---- 22 noNames

    /** "how many there were": none. */
    static void p22_noNames_ofNone_0() {
        due("noNames", new QueueTurns().noNames(), 0);
    }

    /** "No names in both: how many there were": 18 at most, those that nobody saw, too. */
    static void p22_noNames_ofFullRows_18() {
        due("noNames", Edges.full().noNames(), 18);
    }

    /** "No names in both": in either one, too. */
    static void p22_noNames_ofOneRow() {
        due("served", seen(new int[0], 3, UNSEEN, UNSEEN).noNames(), 3);
        due("stood", seen(new int[] {1, 2}).noNames(), 2);
    }

    /** "No names in both" */
    static void p22_noNames_leavesNone() {
        QueueTurns x = Edges.full();
        x.noNames();
        due("served", x.count(4), 0);
        due("stood", x.count(5), 0);
        due("fits", x.fits(0), NO);
        due("again", x.noNames(), 0);
        due("none is in it any more", x.name(SERVED, 8), 1);
        due("none is in it any more", x.name(STOOD, 8), 1);
    }

    /** Only the names go. */
    static void p22_noNames_leavesTheRest() {
        QueueTurns x = Edges.busy();
        int[] counts = {4, 5, 3, 1, 0, 0, 16, 1};
        due("noNames", x.noNames(), 6);
        for (int what = 0; what < counts.length; what++) {
            due("count(" + what + ")", x.count(what), counts[what]);
        }
    }

    // ---- 23 fits

    /** "how many (what = 0), the lowest, as bits (1" */
    static void p23_fits_whatBesideThem_BAD() {
        QueueTurns x = seen(new int[] {5, 6}, 6);
        due("fits(-1)", x.fits(-1), BAD);
        due("fits(2)", x.fits(2), BAD);
        Edges.farAreBad("fits(what)", x::fits);
        fit(x, 2, 1);
    }

    /** "NO: nobody stood" */
    static void p23_fits_nobodyStood_NO() {
        fit(new QueueTurns(), NO, NO);
        fit(seen(new int[0], UNSEEN), NO, NO);
    }

    /** "or more were served than stood" */
    static void p23_fits_moreServedThanStood_NO() {
        fit(seen(new int[] {5}, 5, UNSEEN), NO, NO);
        fit(seen(new int[] {5}, 5, 6), NO, NO);
        fit(seen(upTo(8), 0, 1, 2, 3, 4, 5, 6, 7, UNSEEN), NO, NO);
    }

    /** "more were served than stood": as many are not more. */
    static void p23_fits_asManyServedAsStood() {
        fit(seen(new int[] {5}, 5), 2, 0);
        fit(seen(upTo(9), upTo(9)), 2, 0);
    }

    /** "Of several the first in this order": BAD is ahead of NO. */
    static void p23_fits_BADaheadOfNO() {
        QueueTurns x = new QueueTurns();
        due("fits(2), nobody", x.fits(2), BAD);
        due("fits(-1), nobody", x.fits(-1), BAD);
        QueueTurns y = seen(new int[] {5}, 5, 6);
        due("fits(2), too many", y.fits(2), BAD);
        due("fits(-1), too many", y.fits(-1), BAD);
    }

    /** "Of several the first in this order": BAD is ahead of NONE. */
    static void p23_fits_BADaheadOfNONE() {
        QueueTurns x = seen(new int[] {5, 6, 7}, 6);
        due("fits(1)", x.fits(1), NONE);
        due("fits(2)", x.fits(2), BAD);
        due("fits(-1)", x.fits(-1), BAD);
    }

    /** "Of several the first in this order": NO is ahead of NONE. */
    static void p23_fits_NOaheadOfNONE() {
        QueueTurns x = seen(new int[] {5}, 6, 7);
        due("fits(1)", x.fits(1), NO);
    }

    /** "the lowest, as bits (1; NONE)": no set fits, and there are 0. */
    static void p23_fits_none() {
        fit(seen(new int[] {5, 6, 7}, 6), 0, NONE);
        fit(seen(upTo(9), 4), 0, NONE);
        fit(seen(upTo(9), 0, 1, 2, 3, 4, 5, 7, 6, 8), 0, NONE);
    }

    /** A name that didn't stand can't have been served. */
    static void p23_fits_aNameThatDidNotStand() {
        fit(seen(new int[] {5}, 6), 0, NONE);
        fit(seen(new int[] {5, 6}, UNSEEN, 7), 0, NONE);
    }

    /** "of all till nobody stood": all sets of 1 and of 9 minutes, if nothing was seen. */
    static void p23_fits_nothingSeen() {
        fit(seen(new int[] {5}), 2, 0);
        fit(seen(upTo(9)), 512, 0);
        fit(seen(upTo(9), UNSEEN, UNSEEN, UNSEEN), 512, 0);
    }

    /** "of all till nobody stood": minutes behind those SEEN, too. */
    static void p23_fits_minutesBehindThoseSeen() {
        fit(seen(new int[] {5, 6}, 5), 2, 0);
        fit(seen(upTo(9), 8), 256, 1);
    }

    /** "behind the row had turned in it or not": minute 0 is one. */
    static void p23_fits_turnedInMinute0() {
        fit(seen(new int[] {5, 6}, 6), 2, 1);
        fit(seen(new int[] {5, 6}, 6, 5), 2, 1);
    }

    /** The last of two is served ahead of the other: it turned in minute 7. */
    static void p23_fits_turnedInMinute7() {
        fit(seen(upTo(9), 0, 1, 2, 3, 4, 5, 6, 8, 7), 2, 128);
    }

    /** It turned in every minute: the last, the first, the last .. of nine. */
    static void p23_fits_turnedInEveryMinute() {
        fit(seen(upTo(9), 8, 0, 7, 1, 6, 2, 5, 3, 4), 2, 255);
    }

    /** "(10: that nobody saw)": whoever it was. */
    static void p23_fits_thatNobodySaw() {
        fit(seen(new int[] {4, 7, 2}, 2, UNSEEN, 4), 2, 1);
        fit(seen(new int[] {4, 7, 2}, UNSEEN, UNSEEN, 7), 4, 2);
    }

    /** "the lowest (bits)": minute 0 is the lowest bit; a turn of the last one alone may be or not. */
    static void p23_fits_theLowestBits() {
        fit(seen(new int[] {1, 2, 3, 4}, 4, 3, 2), 2, 1);
        fit(seen(new int[] {1, 2, 3, 4}, 1, 4, 2), 2, 6);
        fit(seen(new int[] {1, 2, 3, 4}, UNSEEN, 4), 4, 2);
        // {1} alone or {0, 1}, with minute 2 or without
        fit(seen(new int[] {1, 2, 3}, UNSEEN, UNSEEN, 2), 4, 2);
    }

    /** "nothing changes then" */
    static void p23_fits_changesNothing() {
        Edges.changesNothing(Edges::busy, "fits(2)", x -> x.fits(2), BAD);
        Edges.changesNothing(Edges::fresh, "fits(0)", x -> x.fits(0), NO);
        Edges.changesNothing(() -> seen(new int[] {5}, 5, 6), "fits(1)", x -> x.fits(1), NO);
        Edges.changesNothing(() -> seen(new int[] {5}, 6), "fits(1)", x -> x.fits(1), NONE);
        Edges.changesNothing(() -> seen(new int[] {5}, 5), "fits(0)", x -> x.fits(0), 2);
    }

    // ---- 24 drawn

    private static boolean isDrawn(int z, int k, int t) {
        long x = 7919L * z + 6151L * k + 3571L * t + 1;
        return x * x % 65521 % 20 == 0;
    }

    private static int drawnMinutes(int z, int k, int from, int to) {
        int many = 0;
        for (int t = from; t <= to; t++) {
            many += isDrawn(z, k, t) ? 1 : 0;
        }
        return many;
    }

    /** A new object now and then, since one is used for 512 calls. */
    private static QueueTurns forZ(QueueTurns x, int z, String text) {
        return x == null || z % 400 == 0 ? Edges.laid(text) : x;
    }

    /** "A MORNING by z (0 to 9999" */
    static void p24_drawn_z0and9999() {
        QueueTurns x = Edges.laid("p1,1,50;s1,9;");
        due("drawn(0, 0)", x.drawn(0, 0), 1);
        due("drawn(9999, 0)", x.drawn(9999, 0), 1);
        due("drawn(0, 1)", x.drawn(0, 1), drawnMinutes(0, 0, 2, 9));
        due("drawn(9999, 1)", x.drawn(9999, 1), drawnMinutes(9999, 0, 2, 9));
    }

    /** "A MORNING by z (0 to 9999" */
    static void p24_drawn_zBeside_BAD() {
        QueueTurns x = new QueueTurns();
        for (int what = 0; what < 3; what++) {
            due("drawn(-1, " + what + ")", x.drawn(-1, what), BAD);
            due("drawn(10000, " + what + ")", x.drawn(10000, what), BAD);
        }
        for (int z : new int[] {Edges.LOW, Edges.LOW + 1, Edges.HIGH - 1, Edges.HIGH, 1 << 16, 65521, -10000}) {
            due("drawn(" + z + ", 0)", x.drawn(z, 0), BAD);
        }
    }

    /** "SERVED (what = 0), turns (1), UNFAIR (2)" */
    static void p24_drawn_whatBeside_BAD() {
        QueueTurns x = new QueueTurns();
        due("drawn(0, -1)", x.drawn(0, -1), BAD);
        due("drawn(0, 3)", x.drawn(0, 3), BAD);
        Edges.farAreBad("drawn(0, what)", what -> x.drawn(0, what));
        due("both", x.drawn(10000, 3), BAD);
        due("drawn(0, 0)", x.drawn(0, 0), 3);
    }

    /** "nothing changes by it" */
    static void p24_drawn_changesNothing() {
        Edges.changesNothing(Edges::busy, "drawn(-1, 0)", x -> x.drawn(-1, 0), BAD);
        Edges.changesNothing(Edges::busy, "drawn(0, 3)", x -> x.drawn(0, 3), BAD);
        Edges.changesNothing(Edges::busy, "drawn(9999, 0)", x -> x.drawn(9999, 0), 3);
        Edges.changesNothing(Edges::fresh, "drawn(0, 0)", x -> x.drawn(0, 0), 3);
    }

    /** "x being 7919 z, 6151 k, 3571 t and 1 together", its square far above an int, by every z. */
    static void p24_drawn_byEveryZ() {
        QueueTurns x = null;
        for (int z = 0; z <= 9999; z++) {
            x = forZ(x, z, "p1,1,50;s1,9;");
            due("drawn(" + z + ", 1)", x.drawn(z, 1), drawnMinutes(z, 0, 2, 9));
        }
    }

    /** "in each minute t": in those from 100 on, too. */
    static void p24_drawn_behindMinute99() {
        QueueTurns x = null;
        int all = 0;
        for (int z = 0; z < 400; z++) {
            x = forZ(x, z, "p99,1,50;s1,8;");
            int want = drawnMinutes(z, 0, 100, 104);
            all += want;
            due("drawn(" + z + ", 1)", x.drawn(z, 1), want);
        }
        due("some are drawn", all > 0 ? 1 : 0, 1);
    }

    /** "once he is in THE ROW": neither ahead of his coming, nor in that minute, nor behind his going. */
    static void p24_drawn_onceHeIsInTheRow() {
        QueueTurns x = null;
        for (int z = 0; z < 400; z++) {
            x = forZ(x, z, "p5,1,2;p1,0,90;p1,0,90;p1,0,90;s1,9;");
            due("drawn(" + z + ", 1)", x.drawn(z, 1), drawnMinutes(z, 0, 6, 6));
        }
    }

    /** "child k (0 the lowest PERSON with one)": those without don't count. */
    static void p24_drawn_childrenAreNumbered() {
        QueueTurns x = null;
        for (int z = 0; z < 400; z++) {
            x = forZ(x, z, "p1,0,2;p50,1,9;p1,0,2;p1,1,50;s1,9;");
            due("drawn(" + z + ", 1)", x.drawn(z, 1), drawnMinutes(z, 1, 2, 9) + drawnMinutes(z, 0, 51, 54));
        }
    }

    /** Ten children: k is 9 for the last. */
    static void p24_drawn_tenChildren() {
        QueueTurns x = null;
        for (int z = 0; z < 400; z++) {
            x = forZ(x, z, "p0,1,1;".repeat(9) + "p1,1,50;s9,9;");
            due("drawn(" + z + ", 1)", x.drawn(z, 1), drawnMinutes(z, 9, 2, 9));
        }
    }

    /** "two cries at once are one": of two children in one minute. */
    static void p24_drawn_twoAtOnce() {
        QueueTurns x = null;
        int both = 0;
        for (int z = 0; z < 4000; z++) {
            x = forZ(x, z, "p1,1,50;p1,1,50;s2,9;");
            int want = 0;
            for (int t = 2; t <= 9; t++) {
                want += isDrawn(z, 0, t) || isDrawn(z, 1, t) ? 1 : 0;
                both += isDrawn(z, 0, t) && isDrawn(z, 1, t) ? 1 : 0;
            }
            due("drawn(" + z + ", 1)", x.drawn(z, 1), want);
        }
        due("some are at once", both > 0 ? 1 : 0, 1);
    }

    /** "without told cries": neither those of THE TEXT nor those told later. */
    static void p24_drawn_withoutToldCries() {
        QueueTurns x = Edges.laid("p1,1,50;c0,2;c0,3;c0,4;s1,9;");
        x.tell(0, 5);
        for (int z = 0; z < 400; z++) {
            due("drawn(" + z + ", 1)", x.drawn(z, 1), drawnMinutes(z, 0, 2, 9));
        }
    }

    /** "as told": the quiet time is. */
    static void p24_drawn_withTheQuietTime() {
        QueueTurns x = null;
        int several = 0;
        for (int z = 0; z < 400; z++) {
            x = forZ(x, z, "p1,1,50;s1,9;q30;");
            int cries = drawnMinutes(z, 0, 2, 9);
            several += cries > 1 ? 1 : 0;
            due("drawn(" + z + ", 1)", x.drawn(z, 1), Math.min(1, cries));
        }
        due("some are quiet", several > 0 ? 1 : 0, 1);
    }

    /** "as told": the LAW is. */
    static void p24_drawn_byTheLaw() {
        QueueTurns never = null;
        QueueTurns behind = null;
        for (int z = 0; z < 400; z++) {
            never = forZ(never, z, "p1,1,50;p1,0,50;s1,9;l3;");
            due("by NEVER " + z, never.drawn(z, 1), 0);
            behind = forZ(behind, z, "p1,0,50;p1,1,50;s1,9;l2;");
            due("by BEHIND " + z, behind.drawn(z, 2), 0);
        }
    }

    /** "how many are SERVED": loaves are as told. */
    static void p24_drawn_served() {
        QueueTurns x = Edges.laid("p1,1,50;p1,0,50;p1,0,50;b2;");
        QueueTurns none = Edges.laid("p1,1,50;b0;");
        for (int z = 0; z < 200; z++) {
            due("of two loaves", x.drawn(z, 0), 2);
            due("of none", none.drawn(z, 0), 0);
        }
    }

    /** "UNFAIR": by an odd number of turns the second is served first. */
    static void p24_drawn_unfair() {
        QueueTurns x = null;
        for (int z = 0; z < 400; z++) {
            x = forZ(x, z, "p1,0,50;p1,1,50;s1,9;");
            due("drawn(" + z + ", 2)", x.drawn(z, 2), drawnMinutes(z, 0, 2, 9) % 2);
        }
    }

    /** Nobody has a child: nothing is drawn. */
    static void p24_drawn_withoutChildren() {
        QueueTurns x = Edges.laid("p1,0,50;p1,0,50;p1,0,50;s1,9;");
        for (int z = 0; z < 400; z++) {
            due("drawn(" + z + ", 1)", x.drawn(z, 1), 0);
        }
    }

    // ---- 25 keep

    /** "KEPT are cries: 2 at most" */
    static void p25_keep_1and2() {
        QueueTurns x = new QueueTurns();
        due("keep", x.keep(), 1);
        due("keep", x.keep(), 2);
    }

    /** "2 at most": "FULL." */
    static void p25_keep_the3rd_FULL() {
        QueueTurns x = new QueueTurns();
        x.keep();
        x.keep();
        due("keep", x.keep(), FULL);
        due("kept", x.count(3), 2);
    }

    /** FULL no more behind back(). */
    static void p25_keep_roomBehindBack() {
        QueueTurns x = Edges.full();
        due("keep", x.keep(), FULL);
        x.back();
        due("keep", x.keep(), 2);
        due("keep", x.keep(), FULL);
    }

    /** FULL no more behind lay(). */
    static void p25_keep_roomBehindLay() {
        QueueTurns x = Edges.laid("p1,1,50;");
        x.keep();
        x.keep();
        x.lay();
        due("keep", x.keep(), 1);
        due("keep", x.keep(), 2);
        due("keep", x.keep(), FULL);
    }

    /** "nothing changes then": neither of the two KEPT is another one. */
    static void p25_keep_FULL_changesNothing() {
        Edges.changesNothing(Edges::full, "keep", QueueTurns::keep, FULL);
        QueueTurns x = Edges.laid("p1,1,50;");
        x.keep();
        x.tell(0, 3);
        x.keep();
        x.tell(0, 4);
        due("keep", x.keep(), FULL);
        x.back();
        due("cries", x.count(1), 1);
        x.back();
        due("cries", x.count(1), 0);
    }

    /** "KEPT are cries": none at all, and all 8. */
    static void p25_keep_noneAnd8Cries() {
        QueueTurns x = Edges.laid("p1,1,50;");
        x.keep();
        for (int m = 10; m < 18; m++) {
            x.tell(0, m);
        }
        x.keep();
        for (int k = 0; k < 8; k++) {
            x.takeBack();
        }
        due("back", x.back(), 1);
        due("cries", x.count(1), 8);
        for (int c = 0; c < 8; c++) {
            due("minute", x.cry(c, 1), 10 + c);
        }
        due("back", x.back(), 0);
        due("cries", x.count(1), 0);
    }

    /** By keep() itself the cries stay as they are, and can be taken back. */
    static void p25_keep_leavesTheCries() {
        QueueTurns x = new QueueTurns();
        x.tell(2, 5);
        x.keep();
        due("cries", x.count(1), 2);
        due("can be taken back", x.count(2), 1);
        due("takeBack", x.takeBack(), 0);
        due("takeBack", x.takeBack(), NO);
    }

    // ---- 26 back

    /** "NO." */
    static void p26_back_noneKept_NO() {
        due("at first", new QueueTurns().back(), NO);
        QueueTurns x = new QueueTurns();
        x.keep();
        x.back();
        due("no more", x.back(), NO);
        QueueTurns y = Edges.laid("p1,1,50;");
        y.keep();
        y.lay();
        due("behind lay", y.back(), NO);
    }

    /** "nothing changes then": what can be taken back can be. */
    static void p26_back_NO_changesNothing() {
        Edges.changesNothing(Edges::fresh, "back", QueueTurns::back, NO);
        Edges.changesNothing(() -> {
            QueueTurns x = new QueueTurns();
            x.tell(2, 5);
            x.tell(2, 6);
            return x;
        }, "back", QueueTurns::back, NO);
    }

    /** "As KEPT last (it is KEPT no more then): how many are left" */
    static void p26_back_theLastKeptFirst() {
        QueueTurns x = Edges.laid("p1,1,50;");
        x.tell(0, 3);
        x.keep();
        x.tell(0, 4);
        x.keep();
        x.tell(0, 5);
        due("back", x.back(), 1);
        due("kept", x.count(3), 1);
        due("cries", x.count(1), 2);
        due("minute", x.cry(1, 1), 4);
        due("back", x.back(), 0);
        due("kept", x.count(3), 0);
        due("cries", x.count(1), 1);
        due("minute", x.cry(0, 1), 3);
        due("back", x.back(), NO);
    }

    /** "As KEPT": cries that were taken back since are there again. */
    static void p26_back_bringsThoseTakenBack() {
        QueueTurns x = Edges.laid("p1,1,50;p1,0,50;s1,9;");
        x.tell(0, 3);
        x.keep();
        x.takeBack();
        due("turns", x.all(4), 0);
        x.back();
        due("turns", x.all(4), 1);
        due("cries", x.count(1), 1);
    }

    /** "none ahead of back() can be taken back": though it could be when it was KEPT. */
    static void p26_back_noneAheadOfItCanBeTakenBack() {
        QueueTurns x = Edges.laid("p1,1,50;c0,1;");
        x.tell(0, 3);
        x.keep();
        x.tell(0, 4);
        x.back();
        due("can be", x.count(2), 0);
        due("takeBack", x.takeBack(), NO);
        due("cries", x.count(1), 2);
    }

    /** Those told behind back() can be taken back, and no others. */
    static void p26_back_thoseBehindItCanBeTakenBack() {
        QueueTurns x = Edges.laid("p1,1,50;c0,1;");
        x.tell(0, 3);
        x.keep();
        x.back();
        due("tell", x.tell(0, 7), 3);
        due("can be", x.count(2), 1);
        due("takeBack", x.takeBack(), 0);
        due("takeBack", x.takeBack(), NO);
        due("cries", x.count(1), 2);
    }

    /** "(8 in all at most)": behind back(), too. */
    static void p26_back_to8Cries_FULL() {
        QueueTurns x = Edges.full();
        x.back();
        due("cries", x.count(1), 8);
        due("tell", x.tell(1, 9), FULL);
        x.back();
        due("cries", x.count(1), 3);
        due("tell", x.tell(1, 9), 4);
    }

    /** "KEPT are cries": names, THE TEXT and what is LAID stay as they are. */
    static void p26_back_leavesTheRest() {
        QueueTurns x = Edges.busy();
        int[] counts = {4, 3, 0, 0, 2, 4, 16, 1};
        due("back", x.back(), 0);
        for (int what = 0; what < counts.length; what++) {
            due("count(" + what + ")", x.count(what), counts[what]);
        }
    }

    /** What is KEPT is a copy: cries told since don't come into it. */
    static void p26_back_isAsKept() {
        QueueTurns x = Edges.laid("p1,1,50;p1,1,50;");
        x.tell(0, 3);
        x.keep();
        x.takeBack();
        x.tell(1, 9);
        x.back();
        due("whose", x.cry(0, 0), 0);
        due("when", x.cry(0, 1), 3);
    }

    // ---- 27 count

    /** "0 PERSONS, .. 7 the LAW": -1 and 8 are none. */
    static void p27_count_whatBesideThem_BAD() {
        QueueTurns x = new QueueTurns();
        due("count(-1)", x.count(-1), BAD);
        due("count(8)", x.count(8), BAD);
        Edges.farAreBad("count(what)", x::count);
        due("count(0)", x.count(0), 3);
        due("count(7)", x.count(7), 0);
    }

    /** "nothing changes then" */
    static void p27_count_changesNothing() {
        Edges.changesNothing(Edges::busy, "count(-1)", x -> x.count(-1), BAD);
        Edges.changesNothing(Edges::busy, "count(8)", x -> x.count(8), BAD);
        Edges.changesNothing(Edges::busy, "count(2)", x -> x.count(2), 3);
    }

    /** Each at the most that there can be. */
    static void p27_count_theMost() {
        QueueTurns x = Edges.laid("p1,1,50;".repeat(10) + "l3;");
        Edges.put(x, "q5;".repeat(72));
        Edges.put(x, "x");
        for (int m = 0; m < 8; m++) {
            x.tell(9, m);
        }
        x.keep();
        x.keep();
        names(x, SERVED, upTo(9));
        names(x, STOOD, upTo(9));
        int[] want = {10, 8, 8, 2, 9, 9, 300, 3};
        for (int what = 0; what < want.length; what++) {
            due("count(" + what + ")", x.count(what), want[what]);
        }
    }

    /** Each at the least that there can be. */
    static void p27_count_theLeast() {
        QueueTurns x = Edges.laid("p1,0,50;l0;");
        x.wipe();
        int[] want = {1, 0, 0, 0, 0, 0, 0, 0};
        for (int what = 0; what < want.length; what++) {
            due("count(" + what + ")", x.count(what), want[what]);
        }
    }

    /** "7 the LAW": of what is LAID, not of THE TEXT that stands. */
    static void p27_count_isOfWhatIsLaid() {
        QueueTurns x = Edges.laid("p1,1,50;l1;");
        x.wipe();
        Edges.put(x, "p1,1,50;p1,1,50;c0,1;l2;");
        due("persons", x.count(0), 1);
        due("cries", x.count(1), 0);
        due("law", x.count(7), 1);
        due("bytes", x.count(6), 24);
    }
}
