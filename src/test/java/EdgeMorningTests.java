/**
 * Part 2 (A MORNING) and promises 6 to 9 at their edges.
 * Above each test stands the sentence of the document that it would fail by.
 */
public final class EdgeMorningTests {
    private static final int BAD = Edges.BAD, NONE = Edges.NONE;
    private static final int SERVED = 0, AWAY = 1, WITHOUT = 2;
    private static final String[] LAWS = {"l0;", "l1;", "l2;", "l3;"};

    public static void main(String[] args) {
        Edges.run(EdgeMorningTests.class);
    }

    private static void due(String call, long got, long want) {
        Edges.due(call, got, want);
    }

    private static void ends(QueueTurns x, int i, int how, int when) {
        due("HOW of " + i, x.person(i, 3), how);
        due("WHEN of " + i, x.person(i, 4), when);
    }

    private static void places(String text, int t, int... want) {
        QueueTurns x = Edges.laid(text);
        for (int i = 0; i < want.length; i++) {
            due("place(" + i + ", " + t + ") of " + text, x.place(i, t), want[i]);
        }
    }

    private static void turns(String text, int want) {
        due("turns of " + text, Edges.laid(text).all(4), want);
    }

    private static void unfair(String text, int want) {
        due("UNFAIR of " + text, Edges.laid(text).all(5), want);
    }

    // ---- 6 person

    /** "(PERSONS, cries: such as there are)" */
    static void p06_person_theLowestAndHighestI() {
        QueueTurns x = Edges.laid("p1,0,50;p2,0,50;p3,0,50;p4,0,50;p5,0,50;p6,0,50;p7,0,50;p8,0,50;p9,0,50;p10,0,50;");
        due("person(0, 0)", x.person(0, 0), 1);
        due("person(9, 0)", x.person(9, 0), 10);
    }

    /** "BAD: a number is none that is told (PERSONS, cries: such as there are)." */
    static void p06_person_iBesideThem_BAD() {
        QueueTurns x = Edges.laid("p1,0,50;".repeat(10));
        QueueTurns y = new QueueTurns();
        for (int what = 0; what < 5; what++) {
            due("person(-1)", x.person(-1, what), BAD);
            due("person(10)", x.person(10, what), BAD);
            due("person(-1)", y.person(-1, what), BAD);
            due("person(3)", y.person(3, what), BAD);
        }
    }

    /** "BAD" */
    static void p06_person_farI_BAD() {
        QueueTurns x = new QueueTurns();
        Edges.farAreBad("person(i, 0)", i -> x.person(i, 0));
        Edges.farAreBad("person(i, 4)", i -> x.person(i, 4));
    }

    /** "such as there are": not those whom an earlier TEXT told. */
    static void p06_person_ofAnEarlierText_BAD() {
        QueueTurns x = Edges.laid("p1,0,50;".repeat(10));
        Edges.layAnew(x, "p5,1,5;");
        due("person(0, 0)", x.person(0, 0), 5);
        due("person(1, 0)", x.person(1, 0), BAD);
        due("person(9, 3)", x.person(9, 3), BAD);
    }

    /** "such as there are": not those of a TEXT that isn't LAID. */
    static void p06_person_ofATextNotLaid_BAD() {
        QueueTurns x = Edges.written("p1,0,50;".repeat(10));
        x.fault();
        due("person(3, 0)", x.person(3, 0), BAD);
        due("person(0, 0)", x.person(0, 0), 0);
    }

    /** "A (what = 0), with a child (1), B (2), HOW (3), WHEN (4)" */
    static void p06_person_whatBesideThem_BAD() {
        QueueTurns x = new QueueTurns();
        due("person(0, -1)", x.person(0, -1), BAD);
        due("person(0, 5)", x.person(0, 5), BAD);
        Edges.farAreBad("person(0, what)", what -> x.person(0, what));
        due("person(0, 4)", x.person(0, 4), 0);
        due("person(0, 2)", x.person(0, 2), 50);
    }

    /** Both BAD at once. */
    static void p06_person_bothBeside_BAD() {
        QueueTurns x = new QueueTurns();
        due("person(3, 5)", x.person(3, 5), BAD);
        due("person(-1, -1)", x.person(-1, -1), BAD);
        due("person(low, high)", x.person(Edges.LOW, Edges.HIGH), BAD);
    }

    /** "nothing changes then" */
    static void p06_person_changesNothing() {
        Edges.changesNothing(Edges::busy, "person(4, 0)", x -> x.person(4, 0), BAD);
        Edges.changesNothing(Edges::busy, "person(0, 5)", x -> x.person(0, 5), BAD);
        Edges.changesNothing(Edges::busy, "person(1, 2)", x -> x.person(1, 2), 50);
        Edges.changesNothing(Edges::busy, "person(0, 4)", x -> x.person(0, 4), 0);
    }

    /** "who comes at minute A (0 to 99), with a child (K 1) or without (0), and waits for B minutes (1 to 99)" */
    static void p06_person_leastAndMostOfEach() {
        QueueTurns x = Edges.laid("p0,0,1;p99,1,99;");
        int[][] want = {{0, 0, 1}, {99, 1, 99}};
        for (int i = 0; i < 2; i++) {
            for (int what = 0; what < 3; what++) {
                due("person(" + i + ", " + what + ")", x.person(i, what), want[i][what]);
            }
        }
    }

    /** "t from 0": minute 0 is one, and each D parts it. */
    static void p06_person_servedInMinute0() {
        for (int d = 1; d <= 9; d++) {
            ends(Edges.laid("p0,0,1;s1," + d + ";"), 0, SERVED, 0);
        }
    }

    /** "who has waited for as long as he would (came B minutes ahead) goes away": ahead of being served. */
    static void p06_person_goesAwayInMinuteAPlusB() {
        QueueTurns x = Edges.laid("p1,0,8;s1,9;");
        ends(x, 0, AWAY, 9);
    }

    /** "as long as he would": a minute less is not so long. */
    static void p06_person_servedInTheLastMinuteHeWaits() {
        QueueTurns x = Edges.laid("p1,0,9;s1,9;");
        ends(x, 0, SERVED, 9);
    }

    /** "waits for B minutes (1 to 99)": the least. */
    static void p06_person_waitsFor1Minute() {
        ends(Edges.laid("p1,0,1;s1,9;"), 0, AWAY, 2);
        ends(Edges.laid("p8,0,1;s1,9;"), 0, AWAY, 9);
        ends(Edges.laid("p9,0,1;s1,9;"), 0, SERVED, 9);
    }

    /** Of several who came together, each goes by his own B. */
    static void p06_person_eachGoesByHisOwnB() {
        QueueTurns x = Edges.laid("p1,0,3;p1,0,2;p1,0,4;p2,0,2;s1,9;");
        ends(x, 0, AWAY, 4);
        ends(x, 1, AWAY, 3);
        ends(x, 2, AWAY, 5);
        ends(x, 3, AWAY, 4);
    }

    /** "If D parts t": in no other minute. */
    static void p06_person_servedOnlyIfDPartsT() {
        for (int d = 1; d <= 9; d++) {
            QueueTurns x = Edges.laid("p1,0,99;p1,0,99;s1," + d + ";");
            ends(x, 0, SERVED, d);
            ends(x, 1, SERVED, 2 * d);
        }
    }

    /** "the first N of THE ROW are served" */
    static void p06_person_nAtOnce() {
        for (int n = 1; n <= 9; n++) {
            QueueTurns x = Edges.laid("p1,0,99;".repeat(10) + "s" + n + ",9;");
            for (int i = 0; i < 10; i++) {
                ends(x, i, SERVED, 9 * (1 + i / n));
            }
        }
    }

    /** "the first N of THE ROW": all of them, if there are fewer. */
    static void p06_person_nMoreThanTheRow() {
        QueueTurns x = Edges.laid("p1,0,99;p1,0,99;s9,9;");
        ends(x, 0, SERVED, 9);
        ends(x, 1, SERVED, 9);
    }

    /** Who comes in a minute is served in it: 3 is ahead of 4. */
    static void p06_person_servedInTheMinuteHeComes() {
        QueueTurns x = Edges.laid("p9,0,9;p99,0,9;s1,9;");
        ends(x, 0, SERVED, 9);
        ends(x, 1, SERVED, 99);
    }

    /** "each a loaf, as long as there are some": just enough. */
    static void p06_person_loavesForAll() {
        QueueTurns x = Edges.laid("p1,0,50;p1,0,50;p1,0,50;s9,9;b3;");
        for (int i = 0; i < 3; i++) {
            ends(x, i, SERVED, 9);
        }
    }

    /** "each a loaf, as long as there are some": one too few, in the middle of N. */
    static void p06_person_loavesFewerThanN() {
        QueueTurns x = Edges.laid("p1,0,50;p1,0,50;p1,0,50;s9,9;b2;");
        ends(x, 0, SERVED, 9);
        ends(x, 1, SERVED, 9);
        ends(x, 2, WITHOUT, 9);
    }

    /** "(0 to 99": no loaves at all. */
    static void p06_person_noLoavesAtAll() {
        QueueTurns x = Edges.laid("p0,0,50;p5,0,50;p99,0,50;b0;");
        ends(x, 0, WITHOUT, 0);
        ends(x, 1, WITHOUT, 5);
        ends(x, 2, WITHOUT, 99);
    }

    /** "whether D parts t or not": who comes later goes home in the minute he comes. */
    static void p06_person_comesBehindTheLastLoaf() {
        QueueTurns x = Edges.laid("p1,0,50;p9,0,50;p10,0,50;p18,0,50;s1,9;b1;");
        ends(x, 0, SERVED, 9);
        ends(x, 1, WITHOUT, 9);
        ends(x, 2, WITHOUT, 10);
        ends(x, 3, WITHOUT, 18);
    }

    /** "all in THE ROW go home": in the minute of the last loaf, not in the next one. */
    static void p06_person_goesHomeInTheMinuteOfTheLastLoaf() {
        QueueTurns x = Edges.laid("p0,0,50;p0,0,50;p0,0,50;s1,1;b2;");
        ends(x, 0, SERVED, 0);
        ends(x, 1, SERVED, 1);
        ends(x, 2, WITHOUT, 1);
    }

    /** "1 who has waited .. goes away" comes ahead of "5 If there are no loaves". */
    static void p06_person_goesAwayAheadOfGoingHome() {
        QueueTurns x = Edges.laid("p1,0,50;p1,0,8;p1,0,9;s1,9;b1;");
        ends(x, 0, SERVED, 9);
        ends(x, 1, AWAY, 9);
        ends(x, 2, WITHOUT, 9);
    }

    /** One who went AWAY takes no loaf. */
    static void p06_person_oneAwayTakesNoLoaf() {
        QueueTurns x = Edges.laid("p1,0,2;p1,0,50;s1,9;b1;");
        ends(x, 0, AWAY, 3);
        ends(x, 1, SERVED, 9);
    }

    /** The longest that anybody can stand there: ten who come at 99, one served each 9th minute. */
    static void p06_person_theLatestWhen() {
        QueueTurns x = Edges.laid("p99,0,99;".repeat(10) + "s1,9;");
        ends(x, 0, SERVED, 99);
        ends(x, 9, SERVED, 180);
    }

    /** "2 If a child cries" comes ahead of "4 .. are served": he is first by the turn of that minute. */
    static void p06_person_turnsAheadOfBeingServed() {
        QueueTurns x = Edges.laid("p1,0,50;p1,1,50;c1,9;s1,9;");
        ends(x, 1, SERVED, 9);
        ends(x, 0, SERVED, 18);
    }

    /** "2 If a child cries" comes ahead of "3 Who comes": who comes then isn't turned. */
    static void p06_person_turnsAheadOfWhoComes() {
        QueueTurns x = Edges.laid("p1,1,50;p9,0,50;c0,9;s1,9;");
        ends(x, 0, SERVED, 9);
        ends(x, 1, SERVED, 18);
    }

    // ---- 7 place

    /** "behind minute t (0 to 199)" */
    static void p07_place_minutes0and199() {
        QueueTurns x = new QueueTurns();
        due("place(1, 0)", x.place(1, 0), 0);
        due("place(2, 0)", x.place(2, 0), 1);
        due("place(1, 199)", x.place(1, 199), NONE);
    }

    /** "behind minute t (0 to 199)" */
    static void p07_place_tBeside_BAD() {
        QueueTurns x = new QueueTurns();
        due("place(1, -1)", x.place(1, -1), BAD);
        due("place(1, 200)", x.place(1, 200), BAD);
        Edges.farAreBad("place(1, t)", t -> x.place(1, t));
    }

    /** "BAD: a number is none that is told (PERSONS" */
    static void p07_place_iBeside_BAD() {
        QueueTurns x = new QueueTurns();
        due("place(-1, 0)", x.place(-1, 0), BAD);
        due("place(3, 0)", x.place(3, 0), BAD);
        Edges.farAreBad("place(i, 0)", i -> x.place(i, 0));
        QueueTurns ten = Edges.laid("p1,0,50;".repeat(10));
        due("place(9, 1)", ten.place(9, 1), 9);
        due("place(10, 1)", ten.place(10, 1), BAD);
    }

    /** "Of several the first in this order": BAD is ahead of NONE. */
    static void p07_place_BADaheadOfNONE() {
        QueueTurns x = new QueueTurns();
        due("place(0, 0)", x.place(0, 0), NONE);
        due("place(0, 200)", x.place(0, 200), BAD);
        due("place(0, -1)", x.place(0, -1), BAD);
        due("place(3, 199)", x.place(3, 199), BAD);
        due("place(-1, 199)", x.place(-1, 199), BAD);
    }

    /** "nothing changes then" */
    static void p07_place_changesNothing() {
        Edges.changesNothing(Edges::busy, "place(4, 0)", x -> x.place(4, 0), BAD);
        Edges.changesNothing(Edges::busy, "place(0, 200)", x -> x.place(0, 200), BAD);
        Edges.changesNothing(Edges::busy, "place(3, 0)", x -> x.place(3, 0), NONE);
        Edges.changesNothing(Edges::busy, "place(1, 1)", x -> x.place(1, 1), 1);
    }

    /** Asked in the middle of a morning, the next morning begins anew: he cries at 4 and comes at 5. */
    static void p07_place_theNextMorningBeginsAnew() {
        QueueTurns x = Edges.laid("p5,1,50;p1,0,50;c0,4;s1,9;");
        due("place(0, 6)", x.place(0, 6), 1);
        due("turns", x.all(4), 0);
        due("place(1, 0)", x.place(1, 0), NONE);
    }

    /** "none (he is not in THE ROW)": ahead of the minute he comes in, not in it. */
    static void p07_place_comesInMinuteA() {
        QueueTurns x = Edges.laid("p5,0,50;s1,9;");
        due("place(0, 4)", x.place(0, 4), NONE);
        due("place(0, 5)", x.place(0, 5), 0);
    }

    /** "none (he is not in THE ROW)": from the minute he is served in. */
    static void p07_place_servedInMinuteWhen() {
        QueueTurns x = Edges.laid("p5,0,50;s1,9;");
        due("place(0, 8)", x.place(0, 8), 0);
        due("place(0, 9)", x.place(0, 9), NONE);
    }

    /** "none (he is not in THE ROW)": from the minute he goes away in. */
    static void p07_place_goneInMinuteAPlusB() {
        QueueTurns x = Edges.laid("p1,0,3;s1,9;");
        due("place(0, 3)", x.place(0, 3), 0);
        due("place(0, 4)", x.place(0, 4), NONE);
    }

    /** "none (he is not in THE ROW)": in the minute he comes in, if he goes home at once. */
    static void p07_place_goesHomeAtOnce_NONE() {
        due("place(0, 5)", Edges.laid("p5,0,50;b0;").place(0, 5), NONE);
    }

    /** The last minute in which anybody can stand there. */
    static void p07_place_theLastMinuteOfAll() {
        QueueTurns x = Edges.laid("p99,0,99;".repeat(10) + "s1,9;");
        due("place(9, 179)", x.place(9, 179), 0);
        due("place(9, 180)", x.place(9, 180), NONE);
        due("place(8, 179)", x.place(8, 179), NONE);
    }

    /** "HIS PLACE behind minute t: 0 for the first" */
    static void p07_place_0forTheFirst9forTheLastOf10() {
        places("p1,0,50;".repeat(10) + "s1,9;", 1, 0, 1, 2, 3, 4, 5, 6, 7, 8, 9);
    }

    /** "who has waited .. goes away": those behind him are nearer. */
    static void p07_place_theOthersCloseUp() {
        places("p1,0,9;p1,0,2;p1,0,9;p1,0,2;p1,0,9;s1,9;", 3, 0, NONE, 1, NONE, 2);
    }

    /** "Who comes at t (the lowest first) stands behind the last" */
    static void p07_place_comeTogether_theLowestFirst() {
        places("p3,0,50;p1,0,50;p3,0,50;p2,0,50;p3,0,50;s1,9;", 3, 2, 0, 3, 1, 4);
    }

    /** "by MIDDLE behind as many as are half of THE ROW (cut)": rows of 0, 1, 2, 3, 4, 5. */
    static void p07_place_MIDDLE_joinsBehindHalf() {
        String law = "s1,9;l1;";
        places("p1,0,50;" + law, 1, 0);
        places("p1,0,50;p2,0,50;" + law, 2, 1, 0);
        places("p1,0,50;p2,0,50;p3,0,50;" + law, 3, 2, 0, 1);
        places("p1,0,50;p2,0,50;p3,0,50;p4,0,50;" + law, 4, 3, 0, 2, 1);
        places("p1,0,50;p2,0,50;p3,0,50;p4,0,50;p5,0,50;" + law, 5, 4, 0, 3, 1, 2);
        places("p1,0,50;p2,0,50;p3,0,50;p4,0,50;p5,0,50;p6,0,50;" + law, 6, 5, 0, 4, 1, 3, 2);
    }

    /** "(the lowest first)": by MIDDLE, too, each sees the one ahead of him in THE ROW already. */
    static void p07_place_MIDDLE_comeTogether() {
        places("p1,0,50;p1,0,50;p1,0,50;p1,0,50;s1,9;l1;", 1, 3, 0, 2, 1);
    }

    /** "1 who has waited .. goes away" comes ahead of "3 Who comes": half of three, not of four. */
    static void p07_place_MIDDLE_joinsBehindHalfOfThoseStillThere() {
        places("p1,0,3;p1,0,50;p1,0,50;p1,0,50;p4,0,50;s1,9;l1;", 3, 3, 0, 2, 1, NONE);
        places("p1,0,3;p1,0,50;p1,0,50;p1,0,50;p4,0,50;s1,9;l1;", 4, NONE, 0, 3, 2, 1);
    }

    /** "by MIDDLE": only there; by the others who comes is the last. */
    static void p07_place_theOtherLaws_joinBehindTheLast() {
        for (String law : new String[] {"l0;", "l2;", "l3;"}) {
            places("p1,0,50;p2,0,50;p3,0,50;p4,0,50;p5,0,50;s1,9;" + law, 5, 0, 1, 2, 3, 4);
        }
    }

    /** "THE ROW TURNS: the last is the first": rows of 1, 2, 3, 4 and 10. */
    static void p07_place_turn_theLastIsTheFirst() {
        String end = "c0,2;s1,9;";
        places("p1,1,50;" + end, 2, 0);
        places("p1,1,50;p1,0,50;" + end, 2, 1, 0);
        places("p1,1,50;p1,0,50;p1,0,50;" + end, 2, 2, 1, 0);
        places("p1,1,50;p1,0,50;p1,0,50;p1,0,50;" + end, 2, 3, 2, 1, 0);
        places("p1,1,50;" + "p1,0,50;".repeat(9) + end, 2, 9, 8, 7, 6, 5, 4, 3, 2, 1, 0);
    }

    /** By MIDDLE the whole row turns as by PLAIN. */
    static void p07_place_MIDDLE_turnsAll() {
        places("p1,1,50;p2,0,50;p3,0,50;p4,0,50;p5,0,50;c0,6;s1,9;l1;", 6, 0, 4, 1, 3, 2);
    }

    /** "by BEHIND all but the first three do": in rows of 3 and 4 nobody is elsewhere. */
    static void p07_place_BEHIND_rowsOf3and4Stay() {
        places("p1,1,50;p1,0,50;p1,0,50;c0,2;s1,9;l2;", 2, 0, 1, 2);
        places("p1,1,50;p1,0,50;p1,0,50;p1,0,50;c0,2;s1,9;l2;", 2, 0, 1, 2, 3);
    }

    /** "by BEHIND all but the first three do": rows of 5, 6 and 10. */
    static void p07_place_BEHIND_theRestOf5and6and10Turns() {
        places("p1,1,50;" + "p1,0,50;".repeat(4) + "c0,2;s1,9;l2;", 2, 0, 1, 2, 4, 3);
        places("p1,1,50;" + "p1,0,50;".repeat(5) + "c0,2;s1,9;l2;", 2, 0, 1, 2, 5, 4, 3);
        places("p1,1,50;" + "p1,0,50;".repeat(9) + "c0,2;s1,9;l2;", 2, 0, 1, 2, 9, 8, 7, 6, 5, 4, 3);
    }

    /** "by NEVER none does" */
    static void p07_place_NEVER_allStay() {
        places("p1,1,50;" + "p1,0,50;".repeat(9) + "c0,2;c0,3;s1,9;l3;", 3, 0, 1, 2, 3, 4, 5, 6, 7, 8, 9);
    }

    /** "3 Who comes at t" comes behind the turn: he is the last. */
    static void p07_place_comesInTheMinuteOfATurn() {
        places("p1,1,50;p1,0,50;p2,0,50;c0,2;s1,9;", 2, 1, 0, 2);
    }

    /** "1 who has waited .. goes away" comes ahead of the turn: the others alone turn. */
    static void p07_place_goesAwayInTheMinuteOfATurn() {
        places("p1,1,50;p1,0,50;p1,0,3;c0,4;s1,9;", 4, 1, 0, NONE);
        // by BEHIND he is none of the first three any more, so there is but one behind them
        places("p1,0,3;p1,1,50;p1,0,50;p1,0,50;p1,0,50;c1,4;s1,9;l2;", 4, NONE, 0, 1, 2, 3);
    }

    // ---- 8 row

    /** "How many are in THE ROW behind minute t": 0 to 199, as with `place`. */
    static void p08_row_minutes0and199() {
        QueueTurns x = new QueueTurns();
        due("row(0)", x.row(0), 2);
        due("row(199)", x.row(199), 0);
    }

    /** "BAD." */
    static void p08_row_tBeside_BAD() {
        QueueTurns x = new QueueTurns();
        due("row(-1)", x.row(-1), BAD);
        due("row(200)", x.row(200), BAD);
        Edges.farAreBad("row(t)", x::row);
    }

    /** "nothing changes then" */
    static void p08_row_changesNothing() {
        Edges.changesNothing(Edges::busy, "row(-1)", x -> x.row(-1), BAD);
        Edges.changesNothing(Edges::busy, "row(200)", x -> x.row(200), BAD);
        Edges.changesNothing(Edges::busy, "row(1)", x -> x.row(1), 2);
    }

    /** Asked in the middle of a morning, the next morning begins anew: he cries at 4 and comes at 5. */
    static void p08_row_theNextMorningBeginsAnew() {
        QueueTurns x = Edges.laid("p5,1,50;p1,0,50;c0,4;s1,9;");
        due("row(6)", x.row(6), 2);
        due("turns", x.all(4), 0);
        due("row(0)", x.row(0), 0);
    }

    /** None and all ten. */
    static void p08_row_ofNobodyAndOf10() {
        QueueTurns x = Edges.laid("p5,0,50;".repeat(10) + "s9,9;");
        due("row(4)", x.row(4), 0);
        due("row(5)", x.row(5), 10);
        due("row(8)", x.row(8), 10);
        due("row(9)", x.row(9), 1);
        due("row(18)", x.row(18), 0);
    }

    /** "behind minute t": who comes, is served, goes away or home in it is so already. */
    static void p08_row_isBehindTheMinute() {
        QueueTurns x = Edges.laid("p1,0,50;p1,0,2;p1,0,50;p1,0,50;s1,9;b2;");
        int[] want = {0, 4, 4, 3, 3, 3, 3, 3, 3, 2, 2, 2, 2, 2, 2, 2, 2, 2, 0};
        for (int t = 0; t < want.length; t++) {
            due("row(" + t + ")", x.row(t), want[t]);
        }
    }

    /** "t from 0 to 199": the last minute in which anybody can stand there. */
    static void p08_row_theLastMinuteOfAll() {
        QueueTurns x = Edges.laid("p99,0,99;".repeat(10) + "s1,9;");
        due("row(98)", x.row(98), 0);
        due("row(99)", x.row(99), 9);
        due("row(179)", x.row(179), 1);
        due("row(180)", x.row(180), 0);
    }

    // ---- 9 all

    /** "how many SERVED (0), AWAY (1), with NONE (2), still there (3); COUNTS (4), UNFAIR (5)" */
    static void p09_all_whatBesideThem_BAD() {
        QueueTurns x = new QueueTurns();
        due("all(-1)", x.all(-1), BAD);
        due("all(6)", x.all(6), BAD);
        Edges.farAreBad("all(what)", x::all);
        due("all(0)", x.all(0), 3);
        due("all(5)", x.all(5), 1);
    }

    /** "nothing changes then" */
    static void p09_all_changesNothing() {
        Edges.changesNothing(Edges::busy, "all(-1)", x -> x.all(-1), BAD);
        Edges.changesNothing(Edges::busy, "all(6)", x -> x.all(6), BAD);
        Edges.changesNothing(Edges::busy, "all(0)", x -> x.all(0), 3);
    }

    /** All of ten SERVED, all AWAY, all with NONE. */
    static void p09_all_ofOneKind() {
        String[] texts = {"p1,0,50;".repeat(10) + "s1,1;", "p1,0,1;".repeat(10) + "s1,9;", "p1,0,50;".repeat(10) + "b0;"};
        for (int how = 0; how < 3; how++) {
            QueueTurns x = Edges.laid(texts[how]);
            for (int what = 0; what < 3; what++) {
                due("all(" + what + ") of " + texts[how], x.all(what), what == how ? 10 : 0);
            }
        }
    }

    /** "(0 to 99)" and "(1 to 99)": 99 and 99 are ahead of 200, so that nobody is still there. */
    static void p09_all_nobodyIsStillThere() {
        due("all(3)", Edges.laid("p99,0,99;".repeat(10) + "s1,9;").all(3), 0);
        due("all(3)", Edges.laid("p99,0,99;".repeat(10) + "s1,9;b1;").all(3), 0);
        due("all(3)", new QueueTurns().all(3), 0);
    }

    /** "one told for t, of one who is in THE ROW": not in the minute he comes in. */
    static void p09_turns_criesInTheMinuteHeComes() {
        turns("p1,1,50;p1,0,50;c0,1;s1,9;", 0);
        turns("p1,1,50;p1,0,50;c0,2;s1,9;", 1);
        turns("p0,1,50;p0,0,50;p0,0,50;c0,0;s1,9;", 0);
    }

    /** "of one who is in THE ROW": not ahead of his coming, though others stand there. */
    static void p09_turns_criesAheadOfHisComing() {
        turns("p5,1,50;p1,0,50;c0,4;s1,9;", 0);
        turns("p5,1,50;p1,0,50;c0,6;s1,9;", 1);
    }

    /** "of one who is in THE ROW": in the minute he goes away in he is gone. */
    static void p09_turns_criesInTheMinuteHeGoesAway() {
        turns("p1,1,3;p1,0,50;c0,4;s1,9;", 0);
        turns("p1,1,3;p1,0,50;c0,3;s1,9;", 1);
    }

    /** "of one who is in THE ROW": in the minute he is served in he still is. */
    static void p09_turns_criesInTheMinuteHeIsServed() {
        turns("p1,1,50;c0,9;s1,9;", 1);
        turns("p1,1,50;p1,0,50;c0,10;s1,9;", 0);
    }

    /** "two cries at once are one": of two children, and of one child told twice. */
    static void p09_turns_twoCriesAtOnce() {
        turns("p1,1,50;p1,1,50;p1,0,50;c0,2;c1,2;s1,9;", 1);
        turns("p1,1,50;p1,1,50;p1,0,50;c0,2;c0,2;s1,9;", 1);
        turns("p1,1,50;p1,0,50;" + "c0,2;".repeat(8) + "s1,9;", 1);
        places("p1,1,50;p1,1,50;p1,0,50;c0,2;c1,2;s1,9;", 2, 2, 1, 0);
    }

    /** Of two cries at once one is enough that is of one in THE ROW, be it told first or last. */
    static void p09_turns_oneOfTwoIsThere() {
        turns("p1,1,50;p9,1,50;p1,0,50;c0,2;c1,2;s1,9;", 1);
        turns("p1,1,50;p9,1,50;p1,0,50;c1,2;c0,2;s1,9;", 1);
    }

    /** "cries at minute M (0 to 99)": the last one. */
    static void p09_turns_inMinute99() {
        turns("p98,1,50;p98,0,50;c0,99;s1,9;", 1);
        places("p98,1,50;p98,0,50;c0,99;s1,8;", 99, 1, 0);
    }

    /** The earliest turn that can be, in minute 1. */
    static void p09_turns_inMinute1() {
        turns("p0,1,50;p0,1,50;c1,1;s1,9;", 1);
    }

    /** "more than Q minutes ahead of t": Q minutes are not more, one more is; Q 0, 1, 29 and 30. */
    static void p09_turns_quietForQMinutes() {
        String ten = "p1,0,90;".repeat(5) + "p1,1,90;" + "p1,0,90;".repeat(4) + "s1,9;c5,2;";
        for (int q : new int[] {0, 1, 29, 30}) {
            turns(ten + "c5," + (2 + q) + ";q" + q + ";", 1);
            turns(ten + "c5," + (3 + q) + ";q" + q + ";", 2);
        }
    }

    /** "(or there was none)": the first one needs no minutes ahead of it. */
    static void p09_turns_theFirstNeedsNoQuietTime() {
        turns("p0,0,50;p0,1,50;p0,0,50;c1,1;q30;s1,9;", 1);
    }

    /** "the latest turn": a cry in the quiet time is none, and the quiet time isn't longer by it. */
    static void p09_turns_aCryInTheQuietTimeIsNoTurn() {
        turns("p1,1,90;p1,0,90;c0,2;c0,5;c0,6;q3;s1,9;", 2);
        places("p1,1,90;p1,0,90;c0,2;c0,5;c0,6;q3;s1,9;", 5, 1, 0);
        places("p1,1,90;p1,0,90;c0,2;c0,5;c0,6;q3;s1,9;", 6, 0, 1);
    }

    /** "the latest turn": not the first one. */
    static void p09_turns_quietBehindTheLatest() {
        turns("p1,1,90;p1,0,90;c0,2;c0,6;c0,8;q3;s1,9;", 2);
    }

    /** A cry of one who isn't in THE ROW is no turn, so there is no quiet time behind it. */
    static void p09_turns_noQuietTimeBehindACryElsewhere() {
        turns("p1,1,90;p5,1,90;c1,3;c0,4;q9;s1,9;", 1);
    }

    /** "COUNTS: how often THE ROW turned": a row of one, too. */
    static void p09_turns_aRowOfOneCounts() {
        turns("p1,1,50;c0,2;c0,3;s1,9;", 2);
    }

    /** By BEHIND THE ROW turns, though nobody is behind the first three; the quiet time begins. */
    static void p09_turns_BEHINDcountsWithNobodyBehind() {
        turns("p1,1,50;p1,0,50;p1,0,50;c0,2;s1,9;l2;", 1);
        turns("p1,1,50;p1,0,50;p1,0,50;c0,2;c0,3;c0,4;q1;s1,9;l2;", 2);
    }

    /** "by NEVER none does": it didn't turn. */
    static void p09_turns_NEVERcountsNone() {
        turns("p1,1,50;p1,0,50;p1,0,50;p1,0,50;p1,0,50;c0,2;c0,3;s1,9;l3;", 0);
    }

    /** Eight cries, eight turns. */
    static void p09_turns_8() {
        turns("p1,1,50;p1,0,50;c0,2;c0,3;c0,4;c0,5;c0,6;c0,7;c0,8;c0,9;s1,9;", 8);
    }

    /** "he who came later (a later minute": his number doesn't matter then. */
    static void p09_unfair_aLaterMinute() {
        unfair("p2,1,50;p1,0,50;c0,3;s1,9;", 1);
        unfair("p2,1,50;p1,0,50;s1,9;", 0);
    }

    /** "or the same and a higher number" */
    static void p09_unfair_theSameMinuteAndAHigherNumber() {
        unfair("p1,1,50;p1,0,50;c0,3;s1,9;", 1);
        unfair("p1,1,50;p1,0,50;s1,9;", 0);
    }

    /** "at an earlier minute": not at the same. */
    static void p09_unfair_servedInTheSameMinute() {
        unfair("p1,1,50;p1,0,50;c0,3;s2,9;", 0);
        unfair("p1,1,50;p1,0,50;p1,0,50;c0,3;s2,9;", 2);
    }

    /** "both SERVED": who went AWAY isn't wronged. */
    static void p09_unfair_notWithOneAway() {
        unfair("p1,0,15;p1,0,50;p1,1,50;c2,9;s1,9;", 1);
        unfair("p1,0,50;p1,0,50;p1,1,50;c2,9;s1,9;", 3);
    }

    /** "both SERVED": nor is he who went home with NONE. */
    static void p09_unfair_notWithOneWithNone() {
        unfair("p1,0,50;p1,0,50;p1,1,50;c2,9;s1,9;b2;", 1);
        unfair("p1,0,50;p1,0,50;p1,1,50;c2,9;s1,9;b1;", 0);
    }

    /** Nobody is SERVED, or one alone: no pairs. */
    static void p09_unfair_noPairs() {
        for (String law : LAWS) {
            unfair("p1,1,50;c0,3;" + law, 0);
            unfair("p1,1,50;p1,0,50;c0,2;b0;" + law, 0);
        }
    }

    /** The most there can be: all 45 pairs of ten. */
    static void p09_unfair_all45Pairs() {
        unfair("p1,1,99;" + "p1,0,99;".repeat(9) + "c0,2;s1,9;", 45);
    }
}
