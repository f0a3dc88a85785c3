/**
 * Part 3 (GAINED, SUSPECT, HUSH, CRY once more, GAME, LAWS), cries told and taken back, and promises 10 to 17 at their
 * edges. Above each test stands the sentence of the document that it would fail by.
 */
public final class EdgeCryTests {
    private static final int BAD = Edges.BAD, NO = Edges.NO, FULL = Edges.FULL, NONE = Edges.NONE;
    /** Two of whom the first is served in minute 9, the second in 18; they can cry from 2 on. */
    private static final String TWO = "p1,0,90;p1,0,90;s1,9;";
    private static final String EIGHT_CRIES = "p1,1,90;p1,0,90;c0,2;c0,3;c0,4;c0,5;c0,6;c0,7;c0,8;c0,9;s1,9;";

    public static void main(String[] args) {
        Edges.run(EdgeCryTests.class);
    }

    private static void due(String call, long got, long want) {
        Edges.due(call, got, want);
    }

    private static void gained(String text, int... want) {
        QueueTurns x = Edges.laid(text);
        for (int c = 0; c < want.length; c++) {
            due("GAINED by " + c + " of " + text, x.cry(c, 2), want[c]);
        }
    }

    private static void suspected(String text, int want) {
        due("SUSPECT of " + text, Edges.laid(text).suspect(), want);
    }

    // ---- 10 cry

    /** "(PERSONS, cries: such as there are)": the lowest, and the highest of 8. */
    static void p10_cry_theLowestAndHighestC() {
        QueueTurns x = Edges.laid(EIGHT_CRIES);
        due("cry(0, 1)", x.cry(0, 1), 2);
        due("cry(7, 1)", x.cry(7, 1), 9);
    }

    /** "BAD: a number is none that is told (PERSONS, cries: such as there are)." */
    static void p10_cry_cBesideThem_BAD() {
        QueueTurns x = Edges.laid(EIGHT_CRIES);
        QueueTurns y = new QueueTurns();
        for (int what = 0; what < 3; what++) {
            due("cry(-1)", x.cry(-1, what), BAD);
            due("cry(8)", x.cry(8, what), BAD);
            due("cry(1)", y.cry(1, what), BAD);
        }
        Edges.farAreBad("cry(c, 0)", c -> y.cry(c, 0));
        Edges.farAreBad("cry(c, 2)", c -> y.cry(c, 2));
    }

    /** "such as there are": there is none. */
    static void p10_cry_withoutCries_BAD() {
        QueueTurns x = Edges.laid("p1,1,50;");
        for (int what = 0; what < 3; what++) {
            due("cry(0)", x.cry(0, what), BAD);
        }
    }

    /** "such as there are": one that was told is, one that was taken back isn't. */
    static void p10_cry_toldAndTakenBack() {
        QueueTurns x = new QueueTurns();
        due("ahead", x.cry(1, 1), BAD);
        x.tell(2, 7);
        due("told", x.cry(1, 1), 7);
        x.takeBack();
        due("taken back", x.cry(1, 1), BAD);
    }

    /** "such as there are": not those of an earlier TEXT. */
    static void p10_cry_ofAnEarlierText_BAD() {
        QueueTurns x = Edges.laid(EIGHT_CRIES);
        Edges.layAnew(x, "p1,1,50;c0,3;");
        due("cry(0, 1)", x.cry(0, 1), 3);
        due("cry(1, 1)", x.cry(1, 1), BAD);
    }

    /** "its PERSON (what = 0), minute (1), GAINED (2)" */
    static void p10_cry_whatBesideThem_BAD() {
        QueueTurns x = new QueueTurns();
        due("cry(0, -1)", x.cry(0, -1), BAD);
        due("cry(0, 3)", x.cry(0, 3), BAD);
        Edges.farAreBad("cry(0, what)", what -> x.cry(0, what));
        due("cry(0, 0)", x.cry(0, 0), 2);
        due("cry(0, 2)", x.cry(0, 2), 202);
        due("both", x.cry(1, 3), BAD);
    }

    /** "nothing changes then" */
    static void p10_cry_changesNothing() {
        Edges.changesNothing(Edges::busy, "cry(5, 0)", x -> x.cry(5, 0), BAD);
        Edges.changesNothing(Edges::busy, "cry(0, 3)", x -> x.cry(0, 3), BAD);
        Edges.changesNothing(Edges::busy, "cry(0, 1)", x -> x.cry(0, 1), 2);
        Edges.changesNothing(Edges::fresh, "cry(0, 2)", x -> x.cry(0, 2), 202);
    }

    /** "cries at minute M (0 to 99)" */
    static void p10_cry_minutes0and99() {
        QueueTurns x = Edges.laid("p1,1,50;c0,0;c0,99;");
        due("cry(0, 1)", x.cry(0, 1), 0);
        due("cry(1, 1)", x.cry(1, 1), 99);
    }

    /** "by how many minutes .. and 200": nothing gained is 200. */
    static void p10_gained_nothing_200() {
        gained("p1,1,50;c0,2;s1,9;", 200);
        gained("p1,0,50;p1,1,50;p1,0,50;c1,2;s1,9;", 200);
    }

    /** A cry that is no turn, since he isn't in THE ROW or it is quiet, gains nothing. */
    static void p10_gained_byACryThatIsNoTurn_200() {
        gained("p5,1,50;p1,0,50;c0,3;s1,9;", 200);
        gained("p1,1,50;p1,0,50;c0,9;c0,2;q7;s1,9;", 200, 200);
        gained("p1,1,50;p1,0,50;c0,1;c0,2;q5;s1,9;", 200, 191);
    }

    /** "by how many minutes TIME of its PERSON is earlier" */
    static void p10_gained_earlier_above200() {
        gained("p1,0,50;p1,1,50;c1,2;s1,9;", 209);
    }

    /** "(less than 0: later)" */
    static void p10_gained_later_below200() {
        gained("p1,1,50;p1,0,50;c0,2;s1,9;", 191);
    }

    /** "TIME of a PERSON is WHEN, if he is SERVED, else 200": from never to minute 1, the most there can be. */
    static void p10_gained_theMost_399() {
        gained("p0,0,50;p0,0,50;p0,1,50;c2,1;s1,1;b2;", 399);
    }

    /** "else 200": from minute 1 to never, the least there can be. */
    static void p10_gained_theLeast_1() {
        gained("p0,0,50;p0,1,50;p0,0,50;c1,1;s1,1;b2;", 1);
    }

    /** "else 200": so, too, for one who goes AWAY, whenever that is. */
    static void p10_gained_byOneAway() {
        gained("p1,0,50;p1,1,10;c1,2;s1,9;", 391);
        gained("p1,1,10;p1,0,50;c0,2;s1,9;", 9);
        gained("p1,0,50;p1,0,50;p1,1,5;c2,2;s1,9;", 200);
    }

    /** "without that cry alone": the others are heard. */
    static void p10_gained_withoutThatCryAlone() {
        gained("p1,0,50;p1,1,50;c1,2;c1,3;s1,9;", 191, 191);
        gained("p1,0,50;p1,1,50;c1,2;c1,3;c1,4;s1,9;", 209, 209, 209);
    }

    /** "two cries at once are one": without one alone it turns as well. */
    static void p10_gained_twoAtOnce_200() {
        gained("p1,0,50;p1,1,50;c1,2;c1,2;s1,9;", 200, 200);
    }

    /** "of its PERSON": not of another. */
    static void p10_gained_ofItsPersonAlone() {
        gained("p1,1,50;p1,0,50;p1,1,50;c0,2;s1,9;", 182);
        gained("p1,1,50;p1,0,50;p1,1,50;c2,2;s1,9;", 218);
    }

    // ---- 11 suspect

    /** "none (no cries)" */
    static void p11_suspect_withoutCries_NONE() {
        suspected("p1,1,50;", NONE);
        QueueTurns x = Edges.laid("p1,1,50;");
        x.tell(0, 5);
        due("told", x.suspect(), 0);
        x.takeBack();
        due("taken back", x.suspect(), NONE);
    }

    /** "of several the first" */
    static void p11_suspect_ofSeveralTheFirst() {
        suspected("p1,0,50;p1,1,50;c1,2;c1,3;c1,4;s1,9;", 0);
        suspected("p1,0,50;p1,1,50;c1,0;c1,2;c1,3;c1,4;s1,9;", 1);
        suspected(EIGHT_CRIES, 0);
    }

    /** "the cry by which most was GAINED": the last of 8. */
    static void p11_suspect_theLastOf8() {
        suspected("p1,0,50;p1,1,50;" + "c1,0;".repeat(7) + "c1,2;s1,9;", 7);
    }

    /** "most": what comes behind it and gained less doesn't matter. */
    static void p11_suspect_theFirstOf8() {
        suspected("p1,0,50;p1,1,50;c1,2;" + "c1,0;".repeat(7) + "s1,9;", 0);
        suspected("p1,1,50;p1,0,50;c0,0;c0,2;s1,9;", 0);
    }

    /** "most": though nobody gained, the least of all being all there is. */
    static void p11_suspect_thoughNothingWasGained() {
        suspected("p1,1,50;c0,2;s1,9;", 0);
        suspected("p1,1,50;p1,0,50;c0,2;s1,9;", 0);
        suspected("p0,0,50;p0,1,50;p0,0,50;c1,1;s1,1;b2;", 0);
        suspected("p1,1,50;p1,0,50;c0,2;c0,0;s1,9;", 1);
    }

    /** "SUSPECT. NONE.": nothing changes by asking. */
    static void p11_suspect_changesNothing() {
        Edges.changesNothing(Edges::fresh, "suspect", QueueTurns::suspect, 0);
        Edges.changesNothing(() -> Edges.laid("p1,1,50;p1,0,50;"), "suspect", QueueTurns::suspect, NONE);
    }

    // ---- 12 tell

    /** "at minute m": "(0 to 99)" */
    static void p12_tell_minutes0and99() {
        QueueTurns x = new QueueTurns();
        due("tell(2, 0)", x.tell(2, 0), 2);
        due("tell(2, 99)", x.tell(2, 99), 3);
        due("cry(1, 1)", x.cry(1, 1), 0);
        due("cry(2, 1)", x.cry(2, 1), 99);
    }

    /** "at minute m": "(0 to 99)" */
    static void p12_tell_mBeside_BAD() {
        QueueTurns x = new QueueTurns();
        due("tell(2, -1)", x.tell(2, -1), BAD);
        due("tell(2, 100)", x.tell(2, 100), BAD);
        due("tell(2, 199)", x.tell(2, 199), BAD);
        Edges.farAreBad("tell(2, m)", m -> x.tell(2, m));
        due("cries", x.count(1), 1);
    }

    /** "BAD: a number is none that is told (PERSONS" */
    static void p12_tell_iBeside_BAD() {
        QueueTurns x = Edges.laid("p1,1,50;".repeat(10));
        due("tell(-1, 5)", x.tell(-1, 5), BAD);
        due("tell(10, 5)", x.tell(10, 5), BAD);
        Edges.farAreBad("tell(i, 5)", i -> x.tell(i, 5));
        due("tell(0, 5)", x.tell(0, 5), 1);
        due("tell(9, 5)", x.tell(9, 5), 2);
    }

    /** "BAD (no child)" */
    static void p12_tell_noChild_BAD() {
        QueueTurns x = new QueueTurns();
        due("tell(0, 5)", x.tell(0, 5), BAD);
        due("tell(1, 5)", x.tell(1, 5), BAD);
        due("tell(2, 5)", x.tell(2, 5), 2);
    }

    /** "(no child)": nor one that an earlier TEXT told. */
    static void p12_tell_childOfAnEarlierText_BAD() {
        QueueTurns x = new QueueTurns();
        Edges.layAnew(x, "p1,0,50;p1,0,50;p1,0,50;");
        due("tell(2, 5)", x.tell(2, 5), BAD);
        Edges.layAnew(x, "p1,0,50;");
        due("tell(2, 5)", x.tell(2, 5), BAD);
    }

    /** "One more cry can be told (8 in all at most)": those of THE TEXT count. */
    static void p12_tell_the8thCry() {
        QueueTurns x = new QueueTurns();
        for (int many = 2; many <= 8; many++) {
            due("tell", x.tell(2, 50), many);
        }
        QueueTurns y = Edges.laid("p1,1,50;" + "c0,1;".repeat(7));
        due("tell", y.tell(0, 50), 8);
    }

    /** "(8 in all at most)": "FULL." */
    static void p12_tell_the9thCry_FULL() {
        QueueTurns x = new QueueTurns();
        for (int many = 2; many <= 8; many++) {
            x.tell(2, 50);
        }
        due("tell", x.tell(2, 50), FULL);
        due("cries", x.count(1), 8);
        due("behind 8 of THE TEXT", Edges.laid(EIGHT_CRIES).tell(0, 5), FULL);
    }

    /** FULL no more, once one is taken back. */
    static void p12_tell_roomBehindTakeBack() {
        QueueTurns x = Edges.laid("p1,1,50;" + "c0,1;".repeat(7));
        x.tell(0, 50);
        due("tell", x.tell(0, 51), FULL);
        x.takeBack();
        due("tell", x.tell(0, 51), 8);
        due("minute", x.cry(7, 1), 51);
    }

    /** "Of several the first in this order": BAD is ahead of FULL. */
    static void p12_tell_BADaheadOfFULL() {
        QueueTurns x = Edges.full();
        due("tell(1, 5)", x.tell(1, 5), FULL);
        due("tell(0, 5)", x.tell(0, 5), BAD);
        due("tell(4, 5)", x.tell(4, 5), BAD);
        due("tell(-1, 5)", x.tell(-1, 5), BAD);
        due("tell(1, 100)", x.tell(1, 100), BAD);
        due("tell(1, -1)", x.tell(1, -1), BAD);
        due("tell(low, high)", x.tell(Edges.LOW, Edges.HIGH), BAD);
    }

    /** "nothing changes then" */
    static void p12_tell_BAD_changesNothing() {
        Edges.changesNothing(Edges::busy, "tell(0, 5)", x -> x.tell(0, 5), BAD);
        Edges.changesNothing(Edges::busy, "tell(4, 5)", x -> x.tell(4, 5), BAD);
        Edges.changesNothing(Edges::busy, "tell(1, 100)", x -> x.tell(1, 100), BAD);
        Edges.changesNothing(Edges::busy, "tell(1, -1)", x -> x.tell(1, -1), BAD);
        Edges.changesNothing(Edges::full, "tell(0, 5)", x -> x.tell(0, 5), BAD);
    }

    /** "nothing changes then" */
    static void p12_tell_FULL_changesNothing() {
        Edges.changesNothing(Edges::full, "tell(1, 2)", x -> x.tell(1, 2), FULL);
    }

    /** "One more cry": the morning is with it, as if it stood in THE TEXT. */
    static void p12_tell_isHeardAsIfOfTheText() {
        QueueTurns x = Edges.laid("p1,1,50;p1,0,50;s1,9;");
        x.tell(0, 9);
        due("turns", x.all(4), 1);
        due("served", x.person(1, 4), 9);
        due("gained", x.cry(0, 2), 191);
        due("hush", x.hush(0, 9), 1);
    }

    // ---- 13 takeBack

    /** "(not those of THE TEXT)": "NO." */
    static void p13_takeBack_ofTheText_NO() {
        due("of one", new QueueTurns().takeBack(), NO);
        due("of eight", Edges.laid(EIGHT_CRIES).takeBack(), NO);
        due("of none", Edges.laid("p1,1,50;").takeBack(), NO);
    }

    /** "how many more can be": from 7 told to none. */
    static void p13_takeBack_downToThoseOfTheText() {
        QueueTurns x = new QueueTurns();
        for (int m = 10; m < 17; m++) {
            x.tell(2, m);
        }
        for (int left = 6; left >= 0; left--) {
            due("takeBack", x.takeBack(), left);
            due("cries", x.count(1), left + 1);
        }
        due("takeBack", x.takeBack(), NO);
        due("cries", x.count(1), 1);
        due("whose", x.cry(0, 0), 2);
        due("when", x.cry(0, 1), 1);
    }

    /** "8 in all at most": all 8 told, all 8 taken back. */
    static void p13_takeBack_all8() {
        QueueTurns x = Edges.laid("p1,1,50;");
        for (int m = 0; m < 8; m++) {
            x.tell(0, m);
        }
        for (int left = 7; left >= 0; left--) {
            due("takeBack", x.takeBack(), left);
        }
        due("takeBack", x.takeBack(), NO);
        due("suspect", x.suspect(), NONE);
    }

    /** "The latest told is taken back" */
    static void p13_takeBack_theLatest() {
        QueueTurns x = new QueueTurns();
        x.tell(2, 30);
        x.tell(2, 10);
        x.tell(2, 20);
        x.takeBack();
        due("second last", x.cry(2, 1), 10);
        due("ahead of it", x.cry(1, 1), 30);
        due("the last", x.cry(3, 1), BAD);
    }

    /** Taken back, it isn't heard: not even one of the same minute. */
    static void p13_takeBack_isHeardNoMore() {
        QueueTurns x = Edges.laid("p1,1,50;p1,0,50;c0,5;s1,9;");
        x.tell(0, 5);
        x.tell(0, 6);
        due("turns", x.all(4), 2);
        x.takeBack();
        due("turns", x.all(4), 1);
        x.takeBack();
        due("turns", x.all(4), 1);
        due("served", x.person(1, 4), 9);
    }

    /** Taken back and told for another minute, it is heard in that one alone. */
    static void p13_takeBack_thenToldForAnotherMinute() {
        QueueTurns x = Edges.laid("p1,1,50;p1,0,50;s1,9;");
        x.tell(0, 5);
        x.takeBack();
        x.tell(0, 7);
        due("turns", x.all(4), 1);
        due("place(0, 6)", x.place(0, 6), 0);
        due("place(0, 7)", x.place(0, 7), 1);
    }

    /** NO by a new TEXT that is LAID, by the TEXT's own cries only. */
    static void p13_takeBack_behindLay_NO() {
        QueueTurns x = Edges.laid("p1,1,50;c0,5;");
        x.tell(0, 6);
        x.lay();
        due("takeBack", x.takeBack(), NO);
        due("cries", x.count(1), 1);
    }

    /** "nothing changes then" */
    static void p13_takeBack_NO_changesNothing() {
        Edges.changesNothing(Edges::fresh, "takeBack", QueueTurns::takeBack, NO);
        Edges.changesNothing(() -> {
            QueueTurns x = Edges.busy();
            x.back();
            return x;
        }, "takeBack", QueueTurns::takeBack, NO);
    }

    // ---- 14 hush

    /** "BAD (m 0 to 199)" */
    static void p14_hush_minutes0and199() {
        QueueTurns x = new QueueTurns();
        due("hush(0, 0)", x.hush(0, 0), 0);
        due("hush(1, 0)", x.hush(1, 0), NONE);
        due("hush(1, 199)", x.hush(1, 199), 0);
    }

    /** "BAD (m 0 to 199)" */
    static void p14_hush_mBeside_BAD() {
        QueueTurns x = new QueueTurns();
        due("hush(0, -1)", x.hush(0, -1), BAD);
        due("hush(0, 200)", x.hush(0, 200), BAD);
        Edges.farAreBad("hush(0, m)", m -> x.hush(0, m));
    }

    /** "BAD: a number is none that is told (PERSONS" */
    static void p14_hush_iBeside_BAD() {
        QueueTurns x = new QueueTurns();
        due("hush(-1, 9)", x.hush(-1, 9), BAD);
        due("hush(3, 9)", x.hush(3, 9), BAD);
        Edges.farAreBad("hush(i, 9)", i -> x.hush(i, 9));
        due("hush(2, 9)", x.hush(2, 9), 0);
        due("hush of the tenth", Edges.laid("p1,0,50;".repeat(10) + "s1,1;").hush(9, 10), 0);
        due("hush of an eleventh", Edges.laid("p1,0,50;".repeat(10) + "s1,1;").hush(10, 10), BAD);
    }

    /** "Of several the first in this order": BAD is ahead of NONE. */
    static void p14_hush_BADaheadOfNONE() {
        QueueTurns x = Edges.laid("p1,0,50;b0;");
        due("hush(0, 199)", x.hush(0, 199), NONE);
        due("hush(0, 200)", x.hush(0, 200), BAD);
        due("hush(0, -1)", x.hush(0, -1), BAD);
        due("hush(1, 0)", x.hush(1, 0), BAD);
        due("hush(-1, 0)", x.hush(-1, 0), BAD);
    }

    /** "nothing changes then": nor by hushing. */
    static void p14_hush_changesNothing() {
        Edges.changesNothing(Edges::busy, "hush(4, 0)", x -> x.hush(4, 0), BAD);
        Edges.changesNothing(Edges::busy, "hush(0, 200)", x -> x.hush(0, 200), BAD);
        Edges.changesNothing(Edges::busy, "hush(3, 0)", x -> x.hush(3, 0), NONE);
        Edges.changesNothing(Edges::fresh, "hush(1, 2)", x -> x.hush(1, 2), 1);
    }

    /** Asked by a minute in the middle of a morning, the next morning begins anew: he cries at 4 and comes at 5. */
    static void p14_hush_theNextMorningBeginsAnew() {
        QueueTurns x = Edges.laid("p5,1,50;p1,0,50;c0,4;s1,9;");
        due("hush(0, 6)", x.hush(0, 6), NONE);
        due("turns", x.all(4), 0);
    }

    /** "he is SERVED by m": at m is by m, at m and one isn't. */
    static void p14_hush_servedByM() {
        QueueTurns x = Edges.laid(TWO);
        due("hush(0, 8)", x.hush(0, 8), NONE);
        due("hush(0, 9)", x.hush(0, 9), 0);
        due("hush(1, 17)", x.hush(1, 17), NONE);
        due("hush(1, 18)", x.hush(1, 18), 0);
    }

    /** "he is SERVED": AWAY or with NONE is not. */
    static void p14_hush_awayOrWithNone_NONE() {
        due("away", Edges.laid("p1,0,3;s1,9;").hush(0, 199), NONE);
        due("with none", Edges.laid("p1,0,50;p1,0,50;b1;").hush(1, 199), NONE);
    }

    /** "the one of fewest": none at all, if he is SERVED as it is. */
    static void p14_hush_noneNeeded_0() {
        due("hush(0, 18)", Edges.laid("p1,1,90;p1,0,90;c0,2;s1,9;").hush(0, 18), 0);
        due("hush(0, 9)", Edges.laid(TWO).hush(0, 9), 0);
    }

    /** "the one of fewest": ahead of "the lowest", for {2} is 4 and {0, 1} is 3. */
    static void p14_hush_fewestAheadOfLowest() {
        QueueTurns x = Edges.laid("p1,1,50;p1,0,50;c0,2;c0,3;c0,5;q1;s1,9;");
        due("hush(1, 9)", x.hush(1, 9), 4);
    }

    /** "of several the lowest" */
    static void p14_hush_ofSeveralTheLowest() {
        QueueTurns x = Edges.laid("p1,0,50;p1,1,50;c1,2;c1,3;s1,9;");
        due("hush(1, 9)", x.hush(1, 9), 1);
        QueueTurns y = Edges.laid("p1,0,50;p1,1,50;c1,0;c1,2;c1,3;s1,9;");
        due("hush(1, 9)", y.hush(1, 9), 2);
    }

    /** "sets of told cries (bits)": the highest alone of 8, and all 8. */
    static void p14_hush_theHighestAndAll8() {
        QueueTurns x = Edges.laid("p1,1,50;p1,0,50;" + "c0,0;".repeat(7) + "c0,9;s1,9;");
        due("hush(0, 9)", x.hush(0, 9), 128);
        QueueTurns y = Edges.laid("p1,1,50;p1,0,50;c0,2;c0,3;c0,4;c0,5;c0,6;c0,7;c0,8;c0,9;q8;s1,9;");
        due("hush(0, 9)", y.hush(0, 9), 255);
    }

    /** "told cries": those told by `tell`, too. */
    static void p14_hush_thoseToldLater() {
        QueueTurns x = Edges.laid("p1,1,50;p1,0,50;c0,0;s1,9;");
        x.tell(0, 5);
        due("hush(0, 9)", x.hush(0, 9), 2);
    }

    /** "none": no set helps, whatever is hushed. */
    static void p14_hush_noSetHelps_NONE() {
        due("hush(1, 9)", Edges.laid("p1,0,50;p1,0,50;s1,9;").hush(1, 9), NONE);
        due("hush(1, 8)", Edges.laid(EIGHT_CRIES).hush(1, 8), NONE);
    }

    // ---- 15 again

    /** "the minute (what = 0), WORTH (1)" */
    static void p15_again_whatBesideThem_BAD() {
        QueueTurns x = Edges.laid(TWO);
        due("again(1, -1)", x.again(1, -1), BAD);
        due("again(1, 2)", x.again(1, 2), BAD);
        Edges.farAreBad("again(1, what)", what -> x.again(1, what));
        due("again(1, 0)", x.again(1, 0), 2);
        due("again(1, 1)", x.again(1, 1), 9);
    }

    /** "BAD: a number is none that is told (PERSONS" */
    static void p15_again_iBeside_BAD() {
        QueueTurns x = Edges.laid(TWO);
        due("again(-1, 0)", x.again(-1, 0), BAD);
        due("again(2, 0)", x.again(2, 0), BAD);
        Edges.farAreBad("again(i, 1)", i -> x.again(i, 1));
    }

    /** "Of several the first in this order": BAD is ahead of NONE. */
    static void p15_again_BADaheadOfNONE() {
        QueueTurns x = Edges.laid(TWO);
        due("again(0, 0)", x.again(0, 0), NONE);
        due("again(0, 2)", x.again(0, 2), BAD);
        due("again(0, -1)", x.again(0, -1), BAD);
        due("again(2, 2)", x.again(2, 2), BAD);
    }

    /** "nothing changes then": nor is the cry told. */
    static void p15_again_changesNothing() {
        Edges.changesNothing(Edges::busy, "again(4, 0)", x -> x.again(4, 0), BAD);
        Edges.changesNothing(Edges::busy, "again(0, 2)", x -> x.again(0, 2), BAD);
        Edges.changesNothing(Edges::busy, "again(0, 0)", x -> x.again(0, 0), NONE);
        Edges.changesNothing(Edges::fresh, "again(1, 1)", x -> x.again(1, 1), 2);
    }

    /** "none (it is not earlier)": alike is not earlier. */
    static void p15_again_notEarlier_NONE() {
        QueueTurns first = Edges.laid(TWO);
        due("the first", first.again(0, 0), NONE);
        due("the first", first.again(0, 1), NONE);
        QueueTurns alone = Edges.laid("p1,1,50;s1,9;");
        due("alone", alone.again(0, 0), NONE);
        due("by NEVER", Edges.laid(TWO + "l3;").again(1, 0), NONE);
        due("by BEHIND", Edges.laid(TWO + "l2;").again(1, 0), NONE);
        due("no loaves", Edges.laid(TWO + "b0;").again(1, 1), NONE);
    }

    /** "the minute x (0 to 99)": 99 is one. */
    static void p15_again_inMinute99() {
        QueueTurns x = Edges.laid("p98,0,50;p98,0,50;s1,8;");
        due("minute", x.again(1, 0), 99);
        due("WORTH", x.again(1, 1), 8);
    }

    /** "the minute x (0 to 99)": 100 is none. */
    static void p15_again_inMinute100_NONE() {
        QueueTurns x = Edges.laid("p99,0,50;p99,0,50;s1,8;");
        due("minute", x.again(1, 0), NONE);
        due("WORTH", x.again(1, 1), NONE);
    }

    /** The earliest minute that can help, 1. */
    static void p15_again_inMinute1() {
        QueueTurns x = Edges.laid("p0,0,50;p0,0,50;p0,0,50;s1,9;");
        due("minute", x.again(2, 0), 1);
    }

    /** "of several the lowest" */
    static void p15_again_ofSeveralTheLowest() {
        due("2 to 9 are alike", Edges.laid(TWO).again(1, 0), 2);
    }

    /** "by which TIME is earliest": not the first that is earlier; 4 is worth 9, 5 is worth 18. */
    static void p15_again_theEarliestTimeNotTheFirstEarlier() {
        QueueTurns x = Edges.laid("p1,0,33;p3,1,31;p4,0,40;c1,9;s1,9;");
        due("minute", x.again(0, 0), 5);
        due("WORTH", x.again(0, 1), 18);
    }

    /** "(with a child or without, as if he had one)" */
    static void p15_again_withAChildOrWithout() {
        for (int child = 0; child < 2; child++) {
            QueueTurns x = Edges.laid("p1,0,90;p1," + child + ",90;s1,9;");
            due("minute", x.again(1, 0), 2);
            due("WORTH", x.again(1, 1), 9);
        }
    }

    /** "none (it is not earlier)": earlier by a single minute is. */
    static void p15_again_worth1() {
        QueueTurns x = Edges.laid("p0,0,50;p0,0,50;p0,0,50;s1,1;");
        due("minute", x.again(2, 0), 1);
        due("WORTH", x.again(2, 1), 1);
    }

    /** "TIME .. else 200": WORTH for one who would never be served. */
    static void p15_again_worthFromNever() {
        QueueTurns x = Edges.laid("p0,0,50;p0,0,50;p0,0,50;s1,1;b2;");
        due("minute", x.again(2, 0), 1);
        due("WORTH", x.again(2, 1), 199);
        QueueTurns away = Edges.laid("p1,0,90;p1,0,10;s1,9;");
        due("WORTH", away.again(1, 1), 191);
    }

    /** "one more cry of his": though 8 are told. */
    static void p15_again_besideEightCries() {
        QueueTurns x = Edges.laid("p1,1,50;p1,0,50;" + "c0,0;".repeat(8) + "s1,9;");
        due("minute", x.again(1, 0), 2);
        due("WORTH", x.again(1, 1), 9);
    }

    /** "one more cry": those told are heard, at once with it they are one. */
    static void p15_again_besideToldCries() {
        QueueTurns x = Edges.laid("p1,1,50;p1,0,50;c0,2;s1,9;");
        due("minute", x.again(0, 0), 3);
        due("WORTH", x.again(0, 1), 9);
    }

    // ---- 16 game

    /** "how many RESTS (what = 0), the minute of i (1), of j (2)" */
    static void p16_game_whatBesideThem_BAD() {
        QueueTurns x = new QueueTurns();
        due("game(0, 1, -1)", x.game(0, 1, -1), BAD);
        due("game(0, 1, 3)", x.game(0, 1, 3), BAD);
        Edges.farAreBad("game(0, 1, what)", what -> x.game(0, 1, what));
        due("game(0, 1, 0)", x.game(0, 1, 0), 12);
        due("game(0, 1, 2)", x.game(0, 1, 2), 2);
    }

    /** "BAD: a number is none that is told (PERSONS": i. */
    static void p16_game_iBeside_BAD() {
        QueueTurns x = new QueueTurns();
        due("game(-1, 1, 0)", x.game(-1, 1, 0), BAD);
        due("game(3, 1, 0)", x.game(3, 1, 0), BAD);
        Edges.farAreBad("game(i, 1, 0)", i -> x.game(i, 1, 0));
    }

    /** "BAD: a number is none that is told (PERSONS": j. */
    static void p16_game_jBeside_BAD() {
        QueueTurns x = new QueueTurns();
        due("game(1, -1, 0)", x.game(1, -1, 0), BAD);
        due("game(1, 3, 0)", x.game(1, 3, 0), BAD);
        Edges.farAreBad("game(1, j, 0)", j -> x.game(1, j, 0));
    }

    /** "GAME of two PERSONS i and j (unlike" */
    static void p16_game_alike_BAD() {
        QueueTurns x = new QueueTurns();
        for (int i = -1; i <= 3; i++) {
            for (int what = 0; what < 3; what++) {
                due("game(" + i + ", " + i + ", " + what + ")", x.game(i, i, what), BAD);
            }
        }
    }

    /** The lowest and the highest PERSON, both ways. */
    static void p16_game_ofTheFirstAndTheTenth() {
        QueueTurns x = Edges.laid("p50,0,50;".repeat(10));
        due("game(0, 9, 0)", x.game(0, 9, 0), 144);
        due("game(9, 0, 0)", x.game(9, 0, 0), 144);
        due("game(0, 10, 0)", x.game(0, 10, 0), BAD);
        due("game(10, 0, 0)", x.game(10, 0, 0), BAD);
    }

    /** "none": one wants an even number of turns, the other an odd one. */
    static void p16_game_noRest() {
        QueueTurns x = Edges.laid(TWO);
        due("how many", x.game(0, 1, 0), 0);
        due("of i", x.game(0, 1, 1), NONE);
        due("of j", x.game(0, 1, 2), NONE);
    }

    /** "Of several the first in this order": BAD is ahead of NONE. */
    static void p16_game_BADaheadOfNONE() {
        QueueTurns x = Edges.laid(TWO);
        due("game(0, 1, 3)", x.game(0, 1, 3), BAD);
        due("game(0, 0, 1)", x.game(0, 0, 1), BAD);
        due("game(1, 1, 2)", x.game(1, 1, 2), BAD);
        due("game(0, 2, 1)", x.game(0, 2, 1), BAD);
        due("game(2, 0, 2)", x.game(2, 0, 2), BAD);
    }

    /** "nothing changes then": nor are the cries told. */
    static void p16_game_changesNothing() {
        Edges.changesNothing(Edges::busy, "game(0, 0, 0)", x -> x.game(0, 0, 0), BAD);
        Edges.changesNothing(Edges::busy, "game(0, 4, 0)", x -> x.game(0, 4, 0), BAD);
        Edges.changesNothing(Edges::busy, "game(0, 1, 3)", x -> x.game(0, 1, 3), BAD);
        Edges.changesNothing(() -> Edges.laid(TWO), "game(0, 1, 1)", x -> x.game(0, 1, 1), NONE);
        Edges.changesNothing(Edges::fresh, "game(0, 1, 0)", x -> x.game(0, 1, 0), 12);
    }

    /** "a minute of 0 to 11 of his own": 0 is one, and the only one by which PERSON 2 isn't turned to a worse place. */
    static void p16_game_minute0() {
        QueueTurns x = Edges.laid("p0,0,90;p0,0,90;p0,0,90;p0,0,90;p0,0,90;s1,9;");
        due("how many", x.game(0, 2, 0), 12);
        due("of i", x.game(0, 2, 1), 0);
        due("of j", x.game(0, 2, 2), 0);
        due("the other way", x.game(2, 0, 0), 12);
    }

    /** "a minute of 0 to 11 of his own": 11 is one, and the only one that they can be heard in. */
    static void p16_game_minute11() {
        QueueTurns x = Edges.laid("p10,0,90;p10,0,90;s1,9;");
        due("how many", x.game(0, 1, 0), 12);
        due("of i", x.game(0, 1, 1), 0);
        due("of j", x.game(0, 1, 2), 11);
        due("the other way, of i", x.game(1, 0, 1), 11);
        due("the other way, of j", x.game(1, 0, 2), 0);
    }

    /** "a minute of 0 to 11 of his own": 12 is none, so nothing they do matters. */
    static void p16_game_minute12isNone() {
        QueueTurns x = Edges.laid("p11,0,90;p11,0,90;s1,9;");
        due("how many", x.game(0, 1, 0), 144);
        due("of i", x.game(0, 1, 1), 0);
        due("of j", x.game(0, 1, 2), 0);
    }

    /** "the minutes of the first (by i's, then j's)": 0 and 8 are ahead of 8 and 0. */
    static void p16_game_theFirstByIsThenJs() {
        // PERSON 0 is gone at 9 whatever he does; 2 wants to be the first then
        QueueTurns x = Edges.laid("p6,1,3;p6,0,8;p7,1,6;s1,9;");
        due("how many", x.game(0, 2, 0), 33);
        due("of i", x.game(0, 2, 1), 0);
        due("of j", x.game(0, 2, 2), 8);
        due("the other way, of i", x.game(2, 0, 1), 0);
        due("the other way, of j", x.game(2, 0, 2), 8);
    }

    /** "as if both had a child" */
    static void p16_game_withAChildOrWithout() {
        for (int children = 0; children < 4; children++) {
            QueueTurns x = Edges.laid("p10," + (children & 1) + ",90;p10," + (children >> 1) + ",90;s1,9;");
            due("how many", x.game(0, 1, 0), 12);
            due("of j", x.game(0, 1, 2), 11);
        }
    }

    /** "each lets it cry once more": though 8 are told. */
    static void p16_game_besideEightCries() {
        QueueTurns x = Edges.laid("p10,1,90;p10,0,90;" + "c0,0;".repeat(8) + "s1,9;");
        due("how many", x.game(0, 1, 0), 12);
        due("of j", x.game(0, 1, 2), 11);
    }

    /** "each lets it cry once more": what is told is heard. */
    static void p16_game_besideToldCries() {
        // turned at 12 by the told cry: now PERSON 0 wants the other turn, and 1 none
        QueueTurns x = Edges.laid("p10,1,90;p10,0,90;c0,12;s1,9;");
        due("how many", x.game(0, 1, 0), 12);
        due("of i", x.game(0, 1, 1), 11);
        due("of j", x.game(0, 1, 2), 0);
    }

    // ---- 17 laws

    /** "UNFAIR by LAW l; the best LAW (l = -1)" */
    static void p17_laws_lBesideThem_BAD() {
        QueueTurns x = new QueueTurns();
        due("laws(-2)", x.laws(-2), BAD);
        due("laws(4)", x.laws(4), BAD);
        Edges.farAreBad("laws(l)", x::laws);
        due("laws(-1)", x.laws(-1), 2);
        due("laws(0)", x.laws(0), 1);
        due("laws(3)", x.laws(3), 0);
    }

    /** "nothing changes then": nor is another LAW told by asking. */
    static void p17_laws_changesNothing() {
        Edges.changesNothing(Edges::busy, "laws(-2)", x -> x.laws(-2), BAD);
        Edges.changesNothing(Edges::busy, "laws(4)", x -> x.laws(4), BAD);
        Edges.changesNothing(Edges::busy, "laws(3)", x -> x.laws(3), 0);
        Edges.changesNothing(Edges::fresh, "laws(-1)", x -> x.laws(-1), 2);
    }

    /** "as it would be by it": whichever is told. */
    static void p17_laws_whicheverIsTold() {
        for (int told = 0; told <= 3; told++) {
            QueueTurns x = Edges.laid("p1,0,90;p2,0,90;p3,0,90;p4,0,90;p5,1,90;c4,9;s1,9;l" + told + ";");
            // at 9 the row is 4 3 2 1 0; by MIDDLE 1 3 4 2 0 turned: 0 2 4 3 1; by BEHIND 0 1 2 4 3
            int[] want = {10, 4, 1, 0};
            for (int l = 0; l <= 3; l++) {
                due("laws(" + l + ") by " + told, x.laws(l), want[l]);
            }
            due("laws(-1) by " + told, x.laws(-1), 3);
        }
    }

    /** "by which UNFAIR is least, the lowest": each LAW can be it. */
    static void p17_laws_eachCanBeBest() {
        due("all alike", Edges.laid(TWO + "l3;").laws(-1), 0);
        // by PLAIN 1 0 at 9, by the others 0 1
        due("MIDDLE ahead of BEHIND and NEVER", Edges.laid("p1,0,90;p2,1,90;c1,3;s1,9;").laws(-1), 1);
        due("BEHIND ahead of NEVER", new QueueTurns().laws(-1), 2);
        due("NEVER alone", Edges.laid("p1,0,90;p2,0,90;p3,0,90;p4,0,90;p5,1,90;c4,9;s1,9;").laws(-1), 3);
    }

    /** "UNFAIR": the least and the most, none and all 45 pairs. */
    static void p17_laws_noneAndAll45Pairs() {
        QueueTurns x = Edges.laid("p1,1,99;" + "p1,0,99;".repeat(9) + "c0,2;s1,9;l3;");
        due("laws(0)", x.laws(0), 45);
        due("laws(3)", x.laws(3), 0);
    }

    /** "as it would be by it": told cries are heard, those told later, too. */
    static void p17_laws_withCriesToldLater() {
        QueueTurns x = Edges.laid("p1,1,90;p1,0,90;s1,9;l3;");
        due("laws(0)", x.laws(0), 0);
        x.tell(0, 2);
        due("laws(0)", x.laws(0), 1);
        due("laws(-1)", x.laws(-1), 1);
    }
}
