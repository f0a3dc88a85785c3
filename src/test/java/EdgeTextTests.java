/**
 * Part 1 (A TEXT and its ITEMS, FAULT, LAID) and promises 1 to 5 at their edges.
 * Above each test stands the sentence of the document that it would fail by.
 */
public final class EdgeTextTests {
    private static final int BAD = Edges.BAD, NO = Edges.NO, FULL = Edges.FULL, NONE = Edges.NONE;
    /** Two PERSONS with a child, so that every ITEM can come behind. */
    private static final String AHEAD = "p3,1,33;p4,1,44;";
    /** Each number of each ITEM, with a # where it stands. */
    private static final String[] NUMBERS = {"p#,1,1;", "p1,#,1;", "p1,1,#;", "c#,1;", "c1,#;", "q#;", "s#,1;", "s1,#;", "b#;", "l#;"};
    private static final String[] ITEMS = {"p1,1,1;", "c1,1;", "q1;", "s1,1;", "b1;", "l1;"};

    public static void main(String[] args) {
        Edges.run(EdgeTextTests.class);
    }

    private static void due(String call, long got, long want) {
        Edges.due(call, got, want);
    }

    private static void isFine(String text) {
        due("fault of " + text, Edges.written(text).fault(), NONE);
    }

    private static void isFault(String text, int place) {
        due("fault of " + text, Edges.written(text).fault(), place);
    }

    private static void isFineBehind(String item) {
        isFine(AHEAD + item);
        isFine(AHEAD + item + "q7;");
    }

    private static void isFaultBehind(String item) {
        isFault(AHEAD + item, AHEAD.length());
        isFault(AHEAD + item + "q7;", AHEAD.length());
    }

    private static void eachNumberIsFine(String figures) {
        for (String number : NUMBERS) {
            isFineBehind(number.replace("#", figures));
        }
    }

    private static void eachNumberIsFault(String figures) {
        for (String number : NUMBERS) {
            isFaultBehind(number.replace("#", figures));
        }
    }

    // ---- 1 A new object

    /** "As told": "at first p0,0,50;p0,0,50;p0,1,50;c2,1;" */
    static void p01_new_isLaidAsTold() {
        QueueTurns x = new QueueTurns();
        int[][] people = {{0, 0, 50}, {0, 0, 50}, {0, 1, 50}};
        due("persons", x.count(0), 3);
        for (int i = 0; i < 3; i++) {
            for (int what = 0; what < 3; what++) {
                due("person(" + i + ", " + what + ")", x.person(i, what), people[i][what]);
            }
        }
        due("cries", x.count(1), 1);
        due("whose", x.cry(0, 0), 2);
        due("when", x.cry(0, 1), 1);
    }

    /** What isn't told at first is as without: "(0 without", "(1, 2 without", "99 without", "(0 without". */
    static void p01_new_isAsThatTextLaid() {
        QueueTurns x = new QueueTurns();
        QueueTurns y = Edges.laid("p0,0,50;p0,0,50;p0,1,50;c2,1;q0;s1,2;b99;l0;");
        y.wipe();
        due("answers alike", Edges.answers(x).equals(Edges.answers(y)) ? 1 : 0, 1);
    }

    /** "THE TEXT is empty." */
    static void p01_new_textIsEmpty() {
        due("bytes", new QueueTurns().count(6), 0);
        due("fault", new QueueTurns().fault(), NONE);
        due("wipe", new QueueTurns().wipe(), 0);
        due("first byte", new QueueTurns().write(1, 'q'), 1);
    }

    /** Nothing of the rest is told at first. */
    static void p01_new_nothingNamedKeptOrToTakeBack() {
        QueueTurns x = new QueueTurns();
        for (int what = 2; what <= 5; what++) {
            due("count(" + what + ")", x.count(what), 0);
        }
        due("takeBack", x.takeBack(), NO);
        due("back", x.back(), NO);
        due("noNames", x.noNames(), 0);
    }

    /** A new object is as told, whatever another one was given. */
    static void p01_new_besideABusyOne_isAsTold() {
        QueueTurns busy = Edges.full();
        QueueTurns x = new QueueTurns();
        due("cries", x.count(1), 1);
        due("bytes", x.count(6), 0);
        x.tell(2, 50);
        x.write(1, ';');
        due("cries of the busy one", busy.count(1), 8);
        due("bytes of the busy one", busy.count(6), 300);
    }

    /** "An object is used for at most 512 calls": the last of them answers, too. */
    static void p01_new_the512thCall_answers() {
        QueueTurns x = new QueueTurns();
        for (int k = 0; k < 170; k++) {
            x.tell(2, 5);
            x.takeBack();
            x.game(0, 1, 0);
        }
        due("511th", x.tell(2, 2), 2);
        due("512th", x.all(4), 2);
    }

    // ---- 2 write

    /** "The lowest n bytes (1 to 8)" */
    static void p02_write_1and8Bytes_areTaken() {
        QueueTurns x = new QueueTurns();
        due("write(1)", x.write(1, 'q'), 1);
        due("write(8)", x.write(8, 0), 9);
    }

    /** "The lowest n bytes (1 to 8)" */
    static void p02_write_0and9Bytes_BAD() {
        QueueTurns x = new QueueTurns();
        due("write(0)", x.write(0, 'q'), BAD);
        due("write(9)", x.write(9, 'q'), BAD);
        due("write(-1)", x.write(-1, 'q'), BAD);
        due("write(-8)", x.write(-8, 'q'), BAD);
    }

    /** "The lowest n bytes (1 to 8)" */
    static void p02_write_farFromAnyN_BAD() {
        QueueTurns x = new QueueTurns();
        Edges.farAreBad("write", n -> x.write(n, 'q'));
    }

    /** "The lowest n bytes (1 to 8) of v": the others don't count, whatever they are. */
    static void p02_write_onlyTheLowestBytesCount() {
        String item = "p99,1,7;";
        for (int n = 1; n <= 8; n++) {
            for (long others : new long[] {0, -1, Long.MIN_VALUE, Long.MAX_VALUE}) {
                QueueTurns x = Edges.written(item.substring(0, 8 - n));
                long v = 0;
                for (int k = 8 - n; k < 8; k++) {
                    v = v << 8 | item.charAt(k);
                }
                if (n < 8) {
                    v |= others << 8 * n;
                }
                due("write(" + n + ")", x.write(n, v), 8);
                due("fault", x.fault(), NONE);
            }
        }
    }

    /** "of v", a long of any kind. */
    static void p02_write_theLeastAndTheMostV_areTaken() {
        for (long v : new long[] {Long.MIN_VALUE, Long.MAX_VALUE, -1, 0}) {
            QueueTurns x = new QueueTurns();
            due("write(8, " + v + ")", x.write(8, v), 8);
            due("write(1, " + v + ")", x.write(1, v), 9);
            due("fault", x.fault(), 0);
        }
    }

    /** "the highest of these first" */
    static void p02_write_theHighestByteIsFirst() {
        QueueTurns x = new QueueTurns();
        x.write(3, 'q' << 16 | '5' << 8 | ';');
        due("q5;", x.fault(), NONE);
        QueueTurns y = new QueueTurns();
        y.write(3, ';' << 16 | '5' << 8 | 'q');
        due(";5q", y.fault(), 0);
    }

    /** "come behind THE TEXT" */
    static void p02_write_comesBehindWhatStands() {
        QueueTurns x = Edges.written("q5;");
        x.write(1, 'x');
        due("fault of q5;x", x.fault(), 3);
    }

    /** "bytes (300 at most)" */
    static void p02_write_the300thByte_isTaken() {
        for (int n = 1; n <= 8; n++) {
            QueueTurns x = Edges.written("x".repeat(300 - n));
            due("write(" + n + ") to the brim", x.write(n, 0), 300);
            due("bytes", x.count(6), 300);
        }
    }

    /** "bytes (300 at most)"; "FULL." */
    static void p02_write_the301stByte_FULL() {
        for (int n = 1; n <= 8; n++) {
            QueueTurns x = Edges.written("x".repeat(301 - n));
            due("write(" + n + ") beyond", x.write(n, 0), FULL);
            due("bytes", x.count(6), 301 - n);
        }
    }

    /** "nothing changes then": not even the bytes for which there were room. */
    static void p02_write_FULL_takesNoByte() {
        QueueTurns x = Edges.written("q5;".repeat(99));
        due("write(4)", x.write(4, 'x' << 24), FULL);
        due("write(3)", x.write(3, 'q' << 16 | '5' << 8 | ';'), 300);
        due("fault", x.fault(), NONE);
    }

    /** "Of several the first in this order": BAD, FULL. */
    static void p02_write_BADaheadOfFULL() {
        QueueTurns x = Edges.full();
        due("write(9)", x.write(9, 0), BAD);
        due("write(0)", x.write(0, 0), BAD);
        due("write(high)", x.write(Edges.HIGH, 0), BAD);
        due("write(low)", x.write(Edges.LOW, 0), BAD);
        due("write(1)", x.write(1, 0), FULL);
    }

    /** "nothing changes then" */
    static void p02_write_BAD_changesNothing() {
        for (int n : new int[] {0, 9, Edges.LOW, Edges.HIGH}) {
            Edges.changesNothing(Edges::fresh, "write(" + n + ")", x -> x.write(n, ';'), BAD);
            Edges.changesNothing(Edges::busy, "write(" + n + ")", x -> x.write(n, ';'), BAD);
        }
    }

    /** "nothing changes then" */
    static void p02_write_FULL_changesNothing() {
        Edges.changesNothing(Edges::full, "write(1)", x -> x.write(1, ';'), FULL);
        Edges.changesNothing(Edges::full, "write(8)", x -> x.write(8, -1), FULL);
    }

    /** Only THE TEXT is longer: what is LAID, told, KEPT and named stays. */
    static void p02_write_leavesWhatIsLaid() {
        QueueTurns x = Edges.busy();
        int[] counts = {4, 5, 3, 1, 2, 4, 16, 1};
        due("write", x.write(2, 'q' << 8 | '5'), 18);
        for (int what = 0; what < counts.length; what++) {
            due("count(" + what + ")", x.count(what), what == 6 ? 18 : counts[what]);
        }
    }

    // ---- 3 wipe

    /** "how long it was": nothing. */
    static void p03_wipe_ofAnEmptyText_0() {
        due("wipe", new QueueTurns().wipe(), 0);
    }

    /** "how long it was" */
    static void p03_wipe_of1and300Bytes() {
        due("one", Edges.written("x").wipe(), 1);
        due("all", Edges.full().wipe(), 300);
    }

    /** "THE TEXT is empty" */
    static void p03_wipe_leavesNothingOfTheText() {
        QueueTurns x = Edges.written("q5;q5;q5;");
        x.wipe();
        due("bytes", x.count(6), 0);
        due("fault", x.fault(), NONE);
        due("lay", x.lay(), NO);
        due("wipe again", x.wipe(), 0);
        x.write(1, 'q');
        due("fault of q", x.fault(), 0);
    }

    /** "THE TEXT is empty": there is room for 300 again. */
    static void p03_wipe_makesRoomFor300() {
        QueueTurns x = Edges.full();
        x.wipe();
        Edges.put(x, "q5;".repeat(100));
        due("bytes", x.count(6), 300);
        due("beyond", x.write(1, 0), FULL);
    }

    /** Only THE TEXT is empty: what is LAID, told, KEPT and named stays. */
    static void p03_wipe_leavesWhatIsLaid() {
        QueueTurns x = Edges.busy();
        int[] counts = {4, 5, 3, 1, 2, 4, 0, 1};
        due("wipe", x.wipe(), 16);
        for (int what = 0; what < counts.length; what++) {
            due("count(" + what + ")", x.count(what), counts[what]);
        }
    }

    // ---- 4 fault

    /** "NONE." */
    static void p04_fault_ofAnEmptyText_NONE() {
        isFine("");
    }

    /** "ITEMS one behind the other" */
    static void p04_fault_ofEachItemAlone_NONE() {
        for (String item : ITEMS) {
            isFineBehind(item);
            if (!item.startsWith("c")) {
                isFine(item);
            }
        }
    }

    /** "ITEMS one behind the other": nothing stands between them, neither ahead of them nor behind them. */
    static void p04_fault_bytesBetweenItems() {
        for (String between : new String[] {" ", "\n", "\t", ",", ";", "0", "\u0000", "\u0080", "\u00ff"}) {
            isFault(between + "q5;", 0);
            isFault("q5;" + between + "q5;", 3);
            isFault("q5;" + between, 3);
        }
    }

    /** "each a letter": p with three numbers, c and s with two, q, b and l with one; no other byte of the 256. */
    static void p04_fault_eachByteAsLetter() {
        for (char b = 0; b < 256; b++) {
            String one = AHEAD + b + "1;";
            String two = AHEAD + b + "1,1;";
            String three = AHEAD + b + "1,1,1;";
            isFault(one, b == 'q' || b == 'b' || b == 'l' ? NONE : 16);
            isFault(two, b == 'c' || b == 's' ? NONE : 16);
            isFault(three, b == 'p' ? NONE : 16);
        }
    }

    /** "each a letter": a single one, and it is there. */
    static void p04_fault_noLetterOrTwo() {
        for (String item : ITEMS) {
            isFaultBehind(item.substring(1));
            isFaultBehind(item.charAt(0) + item);
        }
    }

    /** "(one or two figures)" */
    static void p04_fault_numberWithoutFigures() {
        eachNumberIsFault("");
    }

    /** "(one or two figures)" */
    static void p04_fault_numberOfOneFigure_NONE() {
        eachNumberIsFine("1");
    }

    /** "(one or two figures)" */
    static void p04_fault_numberOfTwoFigures_NONE() {
        eachNumberIsFine("01");
        for (String number : new String[] {"p#,1,1;", "p1,1,#;", "c1,#;", "q#;", "b#;"}) {
            isFineBehind(number.replace("#", "10"));
        }
    }

    /** "(one or two figures)" */
    static void p04_fault_numberOfThreeFigures() {
        eachNumberIsFault("001");
        eachNumberIsFault("010");
        eachNumberIsFault("100");
        eachNumberIsFault("0000000001");
    }

    /** "(one or two figures)": the bytes beside 0 to 9 are none, nor are those with a high bit. */
    static void p04_fault_bytesThatAreNoFigures() {
        for (String b : new String[] {"/", ":", " ", "-", "+", "a", "\u0000", "\u0001", "\u00b0", "\u00b1", "\u00ff"}) {
            eachNumberIsFault(b);
            eachNumberIsFault(b + "1");
            eachNumberIsFault("1" + b);
            eachNumberIsFault("0" + b);
        }
    }

    /** "parted by ,": by no other byte. */
    static void p04_fault_numbersPartedByAnother() {
        for (char b = 0; b < 256; b++) {
            isFault("s1" + b + "1;", b == ',' ? NONE : 0);
            isFault(AHEAD + "c1" + b + "1;", b == ',' ? NONE : 16);
            isFault("p1" + b + "1,1;", b == ',' ? NONE : 0);
            isFault("p1,1" + b + "1;", b == ',' ? NONE : 0);
        }
    }

    /** "parted by ,": by a single one, and by none ahead of the first or behind the last. */
    static void p04_fault_commasTooMany() {
        for (String item : ITEMS) {
            isFaultBehind(item.charAt(0) + "," + item.substring(1));
            isFaultBehind(item.replace(";", ",;"));
            if (item.contains(",")) {
                isFaultBehind(item.replace(",", ",,"));
            }
        }
    }

    /** "and ; (behind the last one, too)": no other byte ends an ITEM. */
    static void p04_fault_itemEndedByAnother() {
        for (char b = 0; b < 256; b++) {
            for (String item : ITEMS) {
                isFault(AHEAD + item.replace(';', b), b == ';' ? NONE : 16);
            }
        }
    }

    /** "(behind the last one, too)" */
    static void p04_fault_lastItemWithoutItsEnd() {
        for (String item : ITEMS) {
            for (int length = 1; length < item.length(); length++) {
                isFault(AHEAD + item.substring(0, length), 16);
            }
        }
    }

    /** The same at the very end of 300 bytes, where nothing stands behind. */
    static void p04_fault_cutOffAtTheEndOf300() {
        isFault("q5;".repeat(97) + "q05;q05;q", 299);
        isFault("q5;".repeat(99) + "q55", 297);
        isFault("q5;".repeat(98) + "s1,1;s", 299);
    }

    /** "bytes (300 at most)": a TEXT may be without FAULT to its last byte. */
    static void p04_fault_of300BytesOfItems_NONE() {
        isFine("q5;".repeat(100));
        isFine("s1,1;".repeat(60));
        isFine("b1;".repeat(100));
        isFine("l1;".repeat(100));
    }

    /** A TEXT that grows has FAULT till its last ITEM is whole. */
    static void p04_fault_goesOnceTheItemIsWhole() {
        QueueTurns x = new QueueTurns();
        for (char b : "p1,1,9".toCharArray()) {
            x.write(1, b);
            due("not whole", x.fault(), 0);
        }
        x.write(1, ';');
        due("whole", x.fault(), NONE);
    }

    /** Each letter has its numbers: one fewer is none. */
    static void p04_fault_oneNumberTooFew() {
        for (String item : new String[] {"p1,1;", "p1;", "p;", "c1;", "c;", "s1;", "s;", "q;", "b;", "l;"}) {
            isFaultBehind(item);
        }
    }

    /** Each letter has its numbers: one more is none. */
    static void p04_fault_oneNumberTooMany() {
        for (String item : ITEMS) {
            isFaultBehind(item.replace(";", ",1;"));
        }
    }

    /** "who comes at minute A (0 to 99)" */
    static void p04_fault_personComes0to99() {
        for (int a = 0; a <= 99; a++) {
            isFine("p" + a + ",0,5;");
        }
        isFault("p100,0,5;", 0);
        isFault("p-1,0,5;", 0);
    }

    /** "with a child (K 1) or without (0)" */
    static void p04_fault_personWithChild0or1() {
        for (int k = 0; k <= 99; k++) {
            isFault("p5," + k + ",5;", k <= 1 ? NONE : 0);
        }
        isFault("p5,-1,5;", 0);
    }

    /** "waits for B minutes (1 to 99)" */
    static void p04_fault_personWaits1to99() {
        for (int b = 0; b <= 99; b++) {
            isFault("p5,0," + b + ";", b >= 1 ? NONE : 0);
        }
        isFault("p5,0,00;", 0);
        isFault("p5,0,100;", 0);
    }

    /** "10 at most" */
    static void p04_fault_the10thPerson_NONE() {
        isFine("p0,1,9;".repeat(10));
    }

    /** "10 at most" */
    static void p04_fault_the11thPerson() {
        isFault("p0,1,9;".repeat(11), 70);
        isFault("p0,1,9;".repeat(10) + "q5;" + "p0,1,9;q5;", 73);
    }

    /** "of PERSON I (told ahead, with one)": I is a PERSON that there is and has a child. */
    static void p04_fault_cryOfEachI() {
        String ten = "p0,0,9;p0,1,9;".repeat(5);
        for (int i = 0; i <= 99; i++) {
            isFault(ten + "c" + i + ",5;", i < 10 && i % 2 == 1 ? NONE : 70);
        }
    }

    /** "(told ahead" */
    static void p04_fault_cryOfOneToldLater() {
        isFault("c0,5;p0,1,9;", 0);
        isFault("p0,1,9;c1,5;p0,1,9;", 7);
        isFine("p0,1,9;p0,1,9;c1,5;");
        isFine("p0,1,9;c0,5;p0,1,9;c1,5;");
    }

    /** ", with one)" */
    static void p04_fault_cryOfOneWithoutChild() {
        isFault("p0,1,9;p0,0,9;c1,5;", 14);
        isFine("p0,0,9;p0,1,9;c1,5;");
        isFault("p0,0,9;p0,1,9;c0,5;", 14);
    }

    /** "cries at minute M (0 to 99)" */
    static void p04_fault_cryAt0to99() {
        for (int m = 0; m <= 99; m++) {
            isFine("p0,1,9;c0," + m + ";");
        }
        isFault("p0,1,9;c0,100;", 7);
        isFault("p0,1,9;c0,-1;", 7);
    }

    /** A cry is so, too, if he hasn't come yet, or is gone. */
    static void p04_fault_cryOfOneWhoIsNotThere_NONE() {
        isFine("p50,1,9;c0,0;c0,49;c0,50;c0,59;c0,99;");
    }

    /** "8 at most" */
    static void p04_fault_the8thCry_NONE() {
        isFine("p0,1,9;" + "c0,1;".repeat(8));
    }

    /** "8 at most" */
    static void p04_fault_the9thCry() {
        isFault("p0,1,9;" + "c0,1;".repeat(9), 47);
        isFault("p0,1,9;" + "c0,1;".repeat(4) + "p0,1,9;" + "c1,1;".repeat(5), 54);
    }

    /** "for Q minutes (0 to 30)" */
    static void p04_fault_quiet0to30() {
        for (int q = 0; q <= 99; q++) {
            isFault("q" + q + ";", q <= 30 ? NONE : 0);
        }
        isFault("q100;", 0);
    }

    /** "N (1 to 9) are served" */
    static void p04_fault_served1to9() {
        for (int n = 0; n <= 99; n++) {
            isFault("s" + n + ",1;", n >= 1 && n <= 9 ? NONE : 0);
        }
    }

    /** "each D-th minute (1 to 9)" */
    static void p04_fault_servedEach1stTo9thMinute() {
        for (int d = 0; d <= 99; d++) {
            isFault("s1," + d + ";", d >= 1 && d <= 9 ? NONE : 0);
        }
        isFine("s9,9;");
        isFault("s0,0;", 0);
    }

    /** "there are B loaves (0 to 99" */
    static void p04_fault_loaves0to99() {
        for (int b = 0; b <= 99; b++) {
            isFine("b" + b + ";");
        }
        isFault("b100;", 0);
    }

    /** "0 PLAIN, 1 MIDDLE, 2 BEHIND, 3 NEVER" */
    static void p04_fault_law0to3() {
        for (int l = 0; l <= 99; l++) {
            isFault("l" + l + ";", l <= 3 ? NONE : 0);
        }
    }

    /** "of several the last one counts": but each of them has to be so. */
    static void p04_fault_isNotMendedByALaterOne() {
        isFault("q5;q31;q5;", 3);
        isFault("s1,1;s0,1;s1,1;", 5);
        isFault("s1,1;s1,0;s1,1;", 5);
        isFault("b5;b100;b5;", 3);
        isFault("l1;l4;l1;", 3);
    }

    /** "the place (from 0 on) of the first byte of the first ITEM that is not so" */
    static void p04_fault_firstOfSeveral() {
        isFault("x;q31;", 0);
        isFault("q5;q31;x;", 3);
        isFault("q5;p0,0,0;l4;", 3);
        isFault("p0,0,5;c0,1;c0,1;", 7);
    }

    /** "of the first byte" of the ITEM, not of the number in it. */
    static void p04_fault_isTheItemsFirstByte() {
        isFault("q5;p50,1,00;", 3);
        isFault("q5;p50,1,100;", 3);
        isFault("q5;p50,1,9x", 3);
    }

    /** "FAULT. NONE.": nothing changes by asking. */
    static void p04_fault_changesNothing() {
        Edges.changesNothing(Edges::fresh, "fault", QueueTurns::fault, NONE);
        Edges.changesNothing(Edges::busy, "fault", QueueTurns::fault, NONE);
        Edges.changesNothing(Edges::faulty, "fault", QueueTurns::fault, 16);
        Edges.changesNothing(Edges::full, "fault", QueueTurns::fault, 299);
    }

    // ---- 5 lay

    /** "how many PERSONS" */
    static void p05_lay_of1and10Persons() {
        due("one", Edges.written("p99,1,99;").lay(), 1);
        due("ten", Edges.written("p0,0,1;".repeat(10)).lay(), 10);
    }

    /** "of a PERSON at least (NO else" */
    static void p05_lay_ofAnEmptyText_NO() {
        due("lay", new QueueTurns().lay(), NO);
        QueueTurns x = Edges.busy();
        x.wipe();
        due("lay", x.lay(), NO);
    }

    /** "of a PERSON at least (NO else" */
    static void p05_lay_ofNobody_NO() {
        due("lay", Edges.written("q5;s1,1;b5;l2;").lay(), NO);
        due("lay", Edges.written("q5;".repeat(100)).lay(), NO);
    }

    /** "a TEXT without FAULT" */
    static void p05_lay_ofAFault_NO() {
        due("ahead", Edges.written("x;p0,0,5;").lay(), NO);
        due("behind", Edges.written("p0,0,5;x").lay(), NO);
        due("not whole", Edges.written("p0,0,5").lay(), NO);
        due("11 persons", Edges.written("p0,0,5;".repeat(11)).lay(), NO);
        due("9 cries", Edges.written("p0,1,5;" + "c0,1;".repeat(9)).lay(), NO);
    }

    /** "nothing changes then" */
    static void p05_lay_NO_changesNothing() {
        Edges.changesNothing(Edges::fresh, "lay", QueueTurns::lay, NO);
        Edges.changesNothing(Edges::faulty, "lay", QueueTurns::lay, NO);
        Edges.changesNothing(Edges::nobodyTold, "lay", QueueTurns::lay, NO);
        Edges.changesNothing(Edges::full, "lay", QueueTurns::lay, NO);
    }

    /** "no names SEEN" */
    static void p05_lay_forgetsNames() {
        QueueTurns x = Edges.busy();
        x.lay();
        due("served", x.count(4), 0);
        due("stood", x.count(5), 0);
        due("fits", x.fits(0), NO);
        due("noNames", x.noNames(), 0);
    }

    /** "nothing to be taken back" */
    static void p05_lay_leavesNothingToTakeBack() {
        QueueTurns x = Edges.busy();
        x.lay();
        due("can be", x.count(2), 0);
        due("takeBack", x.takeBack(), NO);
        due("cries", x.count(1), 1);
    }

    /** "nothing to be taken back, KEPT" */
    static void p05_lay_leavesNothingKept() {
        QueueTurns x = Edges.busy();
        x.lay();
        due("kept", x.count(3), 0);
        due("back", x.back(), NO);
        due("keep", x.keep(), 1);
    }

    /** "(THE TEXT stays)" */
    static void p05_lay_leavesTheText() {
        QueueTurns x = Edges.busy();
        due("lay", x.lay(), 1);
        due("bytes", x.count(6), 16);
        due("lay again", x.lay(), 1);
        due("one more", x.write(1, 'x'), 17);
        due("fault", x.fault(), 16);
    }

    /** LAID again the same TEXT is as it was, without what was told since. */
    static void p05_lay_again_isAsAtFirst() {
        QueueTurns x = Edges.laid("p0,1,50;p0,0,50;c0,1;");
        x.tell(0, 2);
        x.name(0, 1);
        x.keep();
        x.lay();
        due("answers alike", Edges.answers(x).equals(Edges.answers(Edges.laid("p0,1,50;p0,0,50;c0,1;"))) ? 1 : 0, 1);
    }

    /** By each of q, s, b and l it would be another morning. */
    private static final String WITHOUT_ALL = "p0,0,50;p0,0,50;p0,1,50;p0,0,50;c2,1;c2,2;";

    private static void isAsLaidFirst(QueueTurns x) {
        Edges.layAnew(x, WITHOUT_ALL);
        due("turns", x.all(4), 2);
        due("served", x.all(0), 4);
        due("law", x.count(7), 0);
        due("when", x.person(3, 4), 6);
        due("answers alike", Edges.answers(x).equals(Edges.answers(Edges.laid(WITHOUT_ALL))) ? 1 : 0, 1);
    }

    /** Of what was LAID ahead nothing stays: what isn't told is as without. */
    static void p05_lay_anew_leavesNothingOfTheOldOne() {
        for (String old : new String[] {"q30;", "s9,9;", "b0;", "l3;", "q30;s9,9;b0;l3;"}) {
            QueueTurns x = Edges.laid("p1,1,1;p1,1,1;p1,1,1;c2,1;c1,2;" + old);
            isAsLaidFirst(x);
            // twice, so that whatever the object reads a TEXT into has been used
            QueueTurns y = Edges.laid("p1,1,1;p1,1,1;p1,1,1;c2,1;c1,2;" + old);
            y.lay();
            isAsLaidFirst(y);
        }
    }

    /** FAULT found, mended, LAID: of the ITEMS that were read ahead of a FAULT nothing stays. */
    static void p05_lay_behindAFault_isOfTheNewTextAlone() {
        for (String old : new String[] {"q30;", "s9,9;", "b0;", "l3;", "q30;s9,9;b0;l3;"}) {
            QueueTurns x = Edges.written("p1,1,1;c0,1;c0,2;" + old + "x");
            due("lay", x.lay(), NO);
            isAsLaidFirst(x);
        }
    }

    /** "10 at most, 0, 1, ..": numbered as they are told, not as they come. */
    static void p05_lay_personsAreNumberedAsTold() {
        QueueTurns x = Edges.laid("p9,0,1;q5;p0,1,2;p99,0,3;l1;p5,1,4;");
        int[][] want = {{9, 0, 1}, {0, 1, 2}, {99, 0, 3}, {5, 1, 4}};
        for (int i = 0; i < 4; i++) {
            for (int what = 0; what < 3; what++) {
                due("person(" + i + ", " + what + ")", x.person(i, what), want[i][what]);
            }
        }
    }

    /** "8 at most, 0, 1, ..": numbered as they are told, not by minutes. */
    static void p05_lay_criesAreNumberedAsTold() {
        QueueTurns x = Edges.laid("p0,1,9;c0,99;p0,1,9;c1,0;c0,5;");
        int[][] want = {{0, 99}, {1, 0}, {0, 5}};
        for (int c = 0; c < 3; c++) {
            due("whose " + c, x.cry(c, 0), want[c][0]);
            due("when " + c, x.cry(c, 1), want[c][1]);
        }
    }

    /** "(one or two figures)": 09 is 9. */
    static void p05_lay_figuresWithA0Ahead() {
        QueueTurns x = Edges.laid("p07,01,09;c00,08;l02;");
        due("A", x.person(0, 0), 7);
        due("K", x.person(0, 1), 1);
        due("B", x.person(0, 2), 9);
        due("whose", x.cry(0, 0), 0);
        due("when", x.cry(0, 1), 8);
        due("law", x.count(7), 2);
    }

    // a child who cries in minutes 2 and 3 turns the row twice unless there is a quiet time

    /** "qQ .. (0 without" */
    static void p05_lay_withoutQuietTime_0() {
        due("turns", Edges.laid("p1,1,50;c0,2;c0,3;s1,9;").all(4), 2);
    }

    /** "qQ .. of several the last one counts" */
    static void p05_lay_ofSeveralQuietTimes_theLast() {
        due("1 ahead of 0", Edges.laid("p1,1,50;c0,2;c0,3;s1,9;q1;q0;").all(4), 2);
        due("0 ahead of 1", Edges.laid("p1,1,50;c0,2;c0,3;s1,9;q0;q1;").all(4), 1);
        due("told ahead of all", Edges.laid("q0;q1;p1,1,50;c0,2;c0,3;s1,9;").all(4), 1);
    }

    /** "sN,D .. (1, 2 without" */
    static void p05_lay_withoutService_1each2ndMinute() {
        QueueTurns x = Edges.laid("p1,0,50;p1,0,50;p1,0,50;");
        due("first", x.person(0, 4), 2);
        due("second", x.person(1, 4), 4);
        due("third", x.person(2, 4), 6);
    }

    /** "sN,D .. of several the last one counts" */
    static void p05_lay_ofSeveralServices_theLast() {
        QueueTurns x = Edges.laid("s9,9;p1,0,50;p1,0,50;s3,7;p1,0,50;s2,5;");
        due("first", x.person(0, 4), 5);
        due("second", x.person(1, 4), 5);
        due("third", x.person(2, 4), 10);
    }

    /** "bB .. 99 without": more than there can be PERSONS. */
    static void p05_lay_withoutLoaves_enoughForAll() {
        due("served", Edges.laid("p1,0,50;".repeat(10) + "s9,1;").all(0), 10);
    }

    /** "bB .. of several the last one counts" */
    static void p05_lay_ofSeveralLoaves_theLast() {
        due("0 ahead of 2", Edges.laid("p1,0,50;p1,0,50;p1,0,50;b0;b2;").all(0), 2);
        due("2 ahead of 0", Edges.laid("b2;b0;p1,0,50;p1,0,50;p1,0,50;").all(0), 0);
    }

    /** "lL the LAW: .. (0 without" */
    static void p05_lay_withoutLaw_PLAIN() {
        due("law", Edges.laid("p1,0,50;").count(7), 0);
    }

    /** "lL .. of several the last one counts" */
    static void p05_lay_ofSeveralLaws_theLast() {
        due("3, 1", Edges.laid("p1,0,50;l3;l1;").count(7), 1);
        due("1, 3", Edges.laid("l1;p1,0,50;l3;").count(7), 3);
        due("3, 0", Edges.laid("l3;p1,0,50;l0;").count(7), 0);
    }
}
