import java.nio.charset.StandardCharsets;

/** What each promise asks for, worked out by hand: ordinary inputs, edges, wrong inputs. */
public final class PromiseTests {
    private static final int BAD = -1, NO = -2, FULL = -3, NONE = -4;
    private static final int LOW = Integer.MIN_VALUE, HIGH = Integer.MAX_VALUE;
    private static int wrong = 0;

    private static void due(String call, long got, long want) {
        if (got != want) {
            wrong++;
            System.out.println(call + " answered " + got + ", due is " + want);
        }
    }

    private static void put(QueueTurns x, String text) {
        for (byte b : text.getBytes(StandardCharsets.ISO_8859_1)) {
            x.write(1, b);
        }
    }

    private static QueueTurns laid(String text) {
        QueueTurns x = new QueueTurns();
        put(x, text);
        long persons = text.chars().filter(c -> c == 'p').count();
        due("lay of " + text, x.lay(), persons);
        return x;
    }

    public static void main(String[] args) {
        newObject();
        write();
        wipe();
        fault();
        lastOneCounts();
        lay();
        person();
        place();
        lawsInTheRow();
        row();
        all();
        turns();
        cry();
        suspect();
        tell();
        takeBack();
        hush();
        again();
        game();
        laws();
        mean();
        by();
        best();
        name();
        noNames();
        fits();
        drawn();
        keepAndBack();
        count();
        System.out.println(wrong == 0 ? "all promises are kept" : wrong + " answers are not as due");
        if (wrong != 0) {
            System.exit(1);
        }
    }

    private static void newObject() {
        QueueTurns x = new QueueTurns();
        int[] counts = {3, 1, 0, 0, 0, 0, 0, 0};
        for (int w = 0; w < counts.length; w++) {
            due("1 count(" + w + ")", x.count(w), counts[w]);
        }
        for (int i = 0; i < 3; i++) {
            due("1 comes", x.person(i, 0), 0);
            due("1 child", x.person(i, 1), i == 2 ? 1 : 0);
            due("1 waits", x.person(i, 2), 50);
            due("1 how", x.person(i, 3), 0);
        }
        due("1 cry who", x.cry(0, 0), 2);
        due("1 cry when", x.cry(0, 1), 1);
        due("1 fault", x.fault(), NONE);
        due("1 lay", x.lay(), NO);
    }

    private static void write() {
        QueueTurns x = new QueueTurns();
        due("2 write 0", x.write(0, 1), BAD);
        due("2 write 9", x.write(9, 1), BAD);
        due("2 write low", x.write(LOW, 1), BAD);
        due("2 write high", x.write(HIGH, 1), BAD);
        // only the lowest three bytes count: q5;
        due("2 write 3", x.write(3, 0xFFEEDDCCBB71353BL), 3);
        due("2 order", x.fault(), NONE);
        due("2 wipe", x.wipe(), 3);
        for (int k = 1; k <= 37; k++) {
            due("2 write 8", x.write(8, -1L), 8 * k);
        }
        due("2 too much", x.write(5, 0), FULL);
        due("2 unchanged", x.count(6), 296);
        due("2 to the brim", x.write(4, 0), 300);
        due("2 beyond", x.write(1, 0), FULL);
        due("2 BAD ahead of FULL", x.write(9, 0), BAD);
        due("2 still", x.count(6), 300);
    }

    private static void wipe() {
        QueueTurns x = new QueueTurns();
        due("3 empty", x.wipe(), 0);
        put(x, "p5,0,5;");
        due("3 lay", x.lay(), 1);
        due("3 wipe", x.wipe(), 7);
        due("3 again", x.wipe(), 0);
        due("3 bytes", x.count(6), 0);
        due("3 laid stays", x.count(0), 1);
    }

    private static void isFault(String text, int want) {
        QueueTurns x = new QueueTurns();
        put(x, text);
        due("4 fault of " + text, x.fault(), want);
        due("4 text stays " + text, x.count(6), text.length());
        due("4 laid stays " + text, x.count(0), 3);
        if (want != NONE) {
            due("5 lay of " + text, x.lay(), NO);
            due("5 laid stays " + text, x.count(0), 3);
        }
    }

    private static void fault() {
        String[] fine = {"", "p0,0,1;", "p99,1,99;", "p00,01,09;", "q0;", "q30;", "q05;", "s1,1;", "s9,9;", "s09,01;",
            "b0;", "b99;b0;", "l0;", "l1;", "l2;", "l3;", "l03;", "p0,1,5;c0,0;", "p0,1,5;c0,99;", "q1;p0,1,5;l2;c0,9;b3;"};
        for (String text : fine) {
            isFault(text, NONE);
        }
        String[] faults = {"p0,0,0;", "p0,2,1;", "p100,0,1;", "p0,0,100;", "p0,0,1", "p0,0;", "p0;", "p;", "p", "p0,0,1,1;",
            "p,0,1;", "p0,,1;", "p0,0,;", "p0;0,1;", "p0,0,1,", "P0,0,1;", "x1;", ";", ",", "1;", " q5;", "q31;", "q;",
            "q", "q5", "q5,", "q5,5;", "q005;", "q-1;", "q 1;", "s0,1;", "s1,0;", "s10,1;", "s1,10;", "s1;", "s1,2,3;",
            "b100;", "b;", "b-1;", "l4;", "l;", "l99;", "c0,1;", "\u00ff", "\u0000", "\u00f1", "c0,1;p0,1,5;"};
        for (String text : faults) {
            isFault(text, 0);
            isFault("q5;p3,1,33;" + text, text.startsWith("c0,1;") ? NONE : 11);
        }
        isFault("p0,1,5;c1,3;", 7);
        isFault("p0,1,5;c0,100;", 7);
        isFault("p0,1,5;c0;", 7);
        isFault("p0,0,5;c0,1;", 7);
        isFault("p0,1,5;c1,3;p0,1,5;", 7);
        isFault("q5; ", 3);
        isFault("q5;;", 3);
        isFault("q5;q31;x", 3);
        String ten = "p0,1,9;".repeat(10);
        isFault(ten, NONE);
        isFault(ten + "p0,1,9;", 70);
        isFault(ten + "c9,1;c10,1;", 75);
        isFault("p0,1,9;" + "c0,1;".repeat(8), NONE);
        isFault("p0,1,9;" + "c0,1;".repeat(9), 47);
        isFault("q5;".repeat(100), NONE);
        isFault("q5;".repeat(99) + "q55", 297);
    }

    private static void lastOneCounts() {
        due("1 last law", laid("p0,0,5;l3;l1;").count(7), 1);
        due("1 no law", laid("p0,0,5;").count(7), 0);
        due("1 last loaves", laid("p0,0,5;b0;b1;").person(0, 3), 0);
        due("1 last service", laid("p1,0,50;s1,9;s1,5;").person(0, 4), 5);
        due("1 without", laid("p1,0,50;").person(0, 4), 2);
        due("1 last quiet", laid("p1,1,50;q30;q0;s1,9;c0,2;c0,3;").all(4), 2);
        due("1 the other quiet", laid("p1,1,50;q0;q30;s1,9;c0,2;c0,3;").all(4), 1);
    }

    private static void lay() {
        QueueTurns x = new QueueTurns();
        put(x, "p0,1,50;p2,0,50;c0,1;");
        due("5 lay", x.lay(), 2);
        due("5 text stays", x.count(6), 21);
        x.name(0, 1);
        x.name(1, 2);
        x.tell(0, 7);
        x.keep();
        put(x, "x");
        due("5 lay NO", x.lay(), NO);
        int[] before = {2, 2, 1, 1, 1, 1, 22, 0};
        for (int w = 0; w < before.length; w++) {
            due("5 nothing changes " + w, x.count(w), before[w]);
        }
        x.wipe();
        put(x, "q5;");
        due("5 nobody", x.lay(), NO);
        x.wipe();
        put(x, "l2;p0,0,5;");
        due("5 lay", x.lay(), 1);
        int[] after = {1, 0, 0, 0, 0, 0, 10, 2};
        for (int w = 0; w < after.length; w++) {
            due("5 anew " + w, x.count(w), after[w]);
        }
        due("5 none KEPT", x.back(), NO);
        due("5 nothing to take back", x.takeBack(), NO);
        due("5 lay again", x.lay(), 1);
    }

    private static void person() {
        QueueTurns x = laid("p0,0,1;p0,0,1;p0,0,9;p0,1,10;s1,9;");
        int[][] want = {{0, 0, 1, 0, 0}, {0, 0, 1, 1, 1}, {0, 0, 9, 1, 9}, {0, 1, 10, 0, 9}};
        for (int i = 0; i < 4; i++) {
            for (int w = 0; w < 5; w++) {
                due("6 person(" + i + ", " + w + ")", x.person(i, w), want[i][w]);
            }
        }
        int[] wrongs = {-1, 5, LOW, HIGH};
        for (int w : wrongs) {
            due("6 what", x.person(0, w), BAD);
        }
        due("6 i", x.person(-1, 0), BAD);
        due("6 i", x.person(4, 3), BAD);
        due("6 i", x.person(LOW, 0), BAD);
        due("6 i", x.person(HIGH, 4), BAD);
        QueueTurns y = laid("p0,0,9;p0,0,9;p3,0,9;b1;");
        due("6 served", y.person(0, 3), 0);
        due("6 none", y.person(1, 3), 2);
        due("6 when none", y.person(1, 4), 0);
        due("6 comes too late", y.person(2, 3), 2);
        due("6 when too late", y.person(2, 4), 3);
        QueueTurns late = laid("p99,0,99;p99,0,99;b0;");
        due("6 none at once", late.person(1, 4), 99);
        QueueTurns last = laid("p99,0,99;p99,0,1;s1,9;");
        due("6 last", last.person(0, 4), 99);
        due("6 waits one minute", last.person(1, 4), 100);
    }

    private static void place() {
        QueueTurns x = new QueueTurns();
        int[][] want = {{NONE, NONE, NONE, NONE, NONE}, {0, 1, 0, 0, NONE}, {1, 0, NONE, NONE, NONE}};
        for (int i = 0; i < 3; i++) {
            for (int t = 0; t < 5; t++) {
                due("7 place(" + i + ", " + t + ")", x.place(i, t), want[i][t]);
            }
            due("7 at the end", x.place(i, 199), NONE);
        }
        due("7 t", x.place(0, -1), BAD);
        due("7 t", x.place(0, 200), BAD);
        due("7 i", x.place(-1, 0), BAD);
        due("7 i", x.place(3, 0), BAD);
        due("7 both", x.place(HIGH, LOW), BAD);
    }

    private static void placesAt(String text, int t, int... want) {
        QueueTurns x = laid(text);
        for (int i = 0; i < want.length; i++) {
            due("7 place of " + i + " behind " + t + " of " + text, x.place(i, t), want[i]);
        }
    }

    private static void lawsInTheRow() {
        String five = "p0,0,50;".repeat(5);
        placesAt(five + "s1,9;", 0, NONE, 0, 1, 2, 3);
        placesAt(five + "s1,9;l1;", 0, 3, NONE, 2, 0, 1);
        String six = "p1,0,50;".repeat(5) + "p1,1,50;c5,2;s1,9;";
        placesAt(six, 1, 0, 1, 2, 3, 4, 5);
        placesAt(six, 2, 5, 4, 3, 2, 1, 0);
        placesAt(six + "l2;", 2, 0, 1, 2, 5, 4, 3);
        placesAt(six + "l3;", 2, 0, 1, 2, 3, 4, 5);
        placesAt(six + "l1;", 1, 5, 0, 4, 1, 3, 2);
        placesAt(six + "l1;", 2, 0, 5, 1, 4, 2, 3);
        placesAt("p3,0,50;p1,0,50;p2,0,50;s1,9;", 3, 2, 0, 1);
    }

    private static void row() {
        QueueTurns x = new QueueTurns();
        int[] want = {2, 2, 1, 1, 0, 0};
        for (int t = 0; t < want.length; t++) {
            due("8 row(" + t + ")", x.row(t), want[t]);
        }
        due("8 last", x.row(199), 0);
        due("8 -1", x.row(-1), BAD);
        due("8 200", x.row(200), BAD);
        due("8 low", x.row(LOW), BAD);
        due("8 high", x.row(HIGH), BAD);
        QueueTurns y = laid("p1,0,50;".repeat(10) + "s3,7;b5;");
        due("8 ahead", y.row(0), 0);
        due("8 ten", y.row(6), 10);
        due("8 three less", y.row(7), 7);
        due("8 no loaves", y.row(14), 0);
        due("8 still seven", y.row(13), 7);
    }

    private static void allOf(String text, int... want) {
        QueueTurns x = laid(text);
        for (int w = 0; w < want.length; w++) {
            due("9 all(" + w + ") of " + text, x.all(w), want[w]);
        }
    }

    private static void all() {
        QueueTurns x = new QueueTurns();
        int[] want = {3, 0, 0, 0, 1, 1, BAD};
        for (int w = 0; w < want.length; w++) {
            due("9 all(" + w + ")", x.all(w), want[w]);
        }
        due("9 -1", x.all(-1), BAD);
        due("9 low", x.all(LOW), BAD);
        due("9 high", x.all(HIGH), BAD);
        allOf("p1,1,3;p1,0,9;c0,4;s1,9;", 1, 1, 0, 0, 0, 0);
        allOf("p1,0,50;".repeat(10) + "s3,7;b5;", 5, 0, 5, 0, 0, 0);
        // 2 comes first, 0 last, and all are served as they came but for the turn
        allOf("p3,0,50;p2,0,50;p1,1,50;c2,4;s1,9;", 3, 0, 0, 0, 1, 3);
        allOf("p3,0,50;p2,0,50;p1,1,50;s1,9;", 3, 0, 0, 0, 0, 0);
        // served in one minute, so nobody is wronged
        allOf("p3,0,50;p2,0,50;p1,1,50;c2,4;s3,9;", 3, 0, 0, 0, 1, 0);
    }

    private static void turns() {
        due("9 quiet", laid("p1,1,90;p1,0,90;c0,2;c0,5;c0,6;c0,10;q3;s1,9;").all(4), 2);
        due("9 quiet of 2", laid("p1,1,90;p1,0,90;c0,2;c0,5;c0,6;c0,10;q2;s1,9;").all(4), 2);
        due("9 at 5 then", laid("p1,1,90;p1,0,90;c0,2;c0,5;c0,6;c0,10;q2;s1,9;").place(1, 5), 1);
        due("9 comes as he cries", laid("p1,1,9;p1,0,9;c0,1;s1,9;").all(4), 0);
        due("9 not there yet", laid("p4,1,9;p1,0,9;c0,2;s1,9;").all(4), 0);
        due("9 goes as he cries", laid("p1,1,3;p1,0,9;c0,4;s1,9;").all(4), 0);
        due("9 cries ahead of going", laid("p1,1,3;p1,0,9;c0,3;s1,9;").all(4), 1);
        due("9 two at once", laid("p1,1,50;p1,1,50;p1,0,50;c0,2;c1,2;s1,9;").all(4), 1);
        due("9 two at once", laid("p1,1,50;p1,1,50;p1,0,50;c0,2;c1,2;s1,9;").place(2, 2), 0);
        due("9 one is there", laid("p1,1,50;p9,1,50;p1,0,50;c1,2;c0,2;s1,9;").all(4), 1);
        due("9 alone", laid("p1,1,50;c0,2;s1,9;").all(4), 1);
        due("9 BEHIND counts", laid("p1,1,50;p1,0,50;c0,2;s1,9;l2;").all(4), 1);
        due("9 NEVER counts none", laid("p1,1,50;p1,0,50;c0,2;s1,9;l3;").all(4), 0);
        due("9 turns, then comes", laid("p1,1,50;p1,0,50;p2,0,50;c0,2;s1,9;").place(2, 2), 2);
        due("9 turns, then is served", laid("p1,1,50;p1,0,50;c0,9;s1,9;").person(1, 4), 9);
        due("9 at minute 0 there is nobody", laid("p0,1,50;p0,0,50;c0,0;s1,9;").all(4), 0);
    }

    private static void cry() {
        QueueTurns x = new QueueTurns();
        due("10 gained", x.cry(0, 2), 202);
        x.tell(2, 2);
        due("10 who", x.cry(1, 0), 2);
        due("10 when", x.cry(1, 1), 2);
        due("10 lost", x.cry(0, 2), 198);
        due("10 lost", x.cry(1, 2), 198);
        due("10 c", x.cry(2, 0), BAD);
        due("10 c", x.cry(-1, 0), BAD);
        due("10 c", x.cry(LOW, 1), BAD);
        due("10 c", x.cry(HIGH, 2), BAD);
        due("10 what", x.cry(0, 3), BAD);
        due("10 what", x.cry(0, -1), BAD);
        due("10 nothing gained", laid("p0,0,50;p0,1,50;c1,1;").cry(0, 2), 200);
        // without his cry he would never be served; by it he never is
        due("10 never", laid("p0,0,50;p0,0,50;p0,1,50;c2,1;b2;").cry(0, 2), 398);
        due("10 ruined", laid("p0,0,50;p0,1,50;p0,0,50;c1,1;b2;").cry(0, 2), 2);
    }

    private static void suspect() {
        QueueTurns x = new QueueTurns();
        due("11 only one", x.suspect(), 0);
        x.tell(2, 2);
        due("11 alike, the first", x.suspect(), 0);
        due("11 none", laid("p0,1,5;").suspect(), NONE);
        due("11 the second", laid("p0,0,3;p1,1,9;p2,0,9;p2,1,1;c1,3;c3,3;s1,3;b2;q5;").suspect(), 1);
        due("11 less than 200 all", laid("p0,0,50;p0,1,50;p0,0,50;c1,1;b2;").suspect(), 0);
    }

    private static void tell() {
        QueueTurns x = new QueueTurns();
        due("12 no child", x.tell(0, 5), BAD);
        due("12 i", x.tell(3, 5), BAD);
        due("12 i", x.tell(-1, 5), BAD);
        due("12 i", x.tell(HIGH, 5), BAD);
        due("12 m", x.tell(2, -1), BAD);
        due("12 m", x.tell(2, 100), BAD);
        due("12 nothing changes", x.count(1), 1);
        for (int k = 2; k <= 8; k++) {
            due("12 tell", x.tell(2, k == 8 ? 99 : 0), k);
        }
        due("12 full", x.tell(2, 1), FULL);
        due("12 BAD ahead of FULL", x.tell(1, 1), BAD);
        due("12 many", x.count(1), 8);
        due("12 last", x.cry(7, 1), 99);
        due("12 to be taken back", x.count(2), 7);
    }

    private static void takeBack() {
        QueueTurns x = new QueueTurns();
        due("13 of the TEXT", x.takeBack(), NO);
        x.tell(2, 2);
        x.tell(2, 9);
        due("13 the latest", x.takeBack(), 1);
        due("13 it was so", x.cry(1, 1), 2);
        due("13 the other one", x.takeBack(), 0);
        due("13 no more", x.takeBack(), NO);
        due("13 morning as ahead", x.person(2, 4), 2);
        due("13 told anew", x.tell(2, 3), 2);
        due("13 minute", x.cry(1, 1), 3);
        due("13 many", x.count(2), 1);
    }

    private static void hush() {
        QueueTurns x = new QueueTurns();
        due("14 hush(1, 2)", x.hush(1, 2), 1);
        due("14 hush(1, 3)", x.hush(1, 3), 1);
        due("14 hush(1, 4)", x.hush(1, 4), 0);
        due("14 hush(1, 1)", x.hush(1, 1), NONE);
        due("14 hush(0, 0)", x.hush(0, 0), 0);
        x.tell(2, 2);
        due("14 one of two", x.hush(2, 2), 1);
        due("14 none needed", x.hush(1, 2), 0);
        due("14 m", x.hush(0, -1), BAD);
        due("14 m", x.hush(0, 200), BAD);
        due("14 m", x.hush(0, 199), 0);
        due("14 i", x.hush(3, 0), BAD);
        due("14 i", x.hush(-1, 0), BAD);
        // {2} is fewer than {0, 1}, though 4 is more than 3
        QueueTurns y = laid("p1,1,50;p1,0,50;c0,2;c0,3;c0,5;q1;s1,9;");
        due("14 fewest ahead of lowest", y.hush(1, 9), 4);
        due("14 none", y.hush(0, 9), 0);
        due("14 too soon", y.hush(1, 8), NONE);
        due("14 nothing changes", y.all(4), 2);
        due("14 never served", laid("p5,0,99;b0;").hush(0, 199), NONE);
        // by each of the eight the first goes on; only without all of them is he the first of a row of two at 9
        QueueTurns z = laid("p1,1,50;p1,0,50;p9,0,50;c0,2;c0,3;c0,4;c0,5;c0,6;c0,7;c0,8;c0,9;q8;s1,9;");
        due("14 all eight", z.hush(0, 9), 255);
    }

    private static void again() {
        QueueTurns x = new QueueTurns();
        due("15 minute", x.again(1, 0), 2);
        due("15 worth", x.again(1, 1), 2);
        due("15 none", x.again(2, 0), NONE);
        due("15 none", x.again(2, 1), NONE);
        due("15 served at once", x.again(0, 1), NONE);
        due("15 what", x.again(1, 2), BAD);
        due("15 what", x.again(1, -1), BAD);
        due("15 i", x.again(3, 0), BAD);
        due("15 i", x.again(-1, 0), BAD);
        due("15 nothing changes", x.count(1), 1);
        QueueTurns y = laid("p0,0,50;p0,0,50;p0,0,50;b2;");
        due("15 from never", y.again(2, 1), 198);
        due("15 at", y.again(2, 0), 1);
        QueueTurns late = laid("p98,0,50;p98,0,50;p98,0,50;");
        due("15 the last minute", late.again(2, 0), 99);
        due("15 beyond it", laid("p99,0,50;p99,0,50;p99,0,50;").again(2, 0), NONE);
        QueueTurns many = laid("p1,1,50;p1,0,50;" + "c0,0;".repeat(8) + "s1,9;");
        due("15 a ninth", many.again(1, 0), 2);
        due("15 a ninth", many.again(1, 1), 9);
    }

    private static void game() {
        QueueTurns x = new QueueTurns();
        due("16 rests", x.game(0, 1, 0), 12);
        due("16 of i", x.game(0, 1, 1), 0);
        due("16 of j", x.game(0, 1, 2), 2);
        due("16 the other way", x.game(1, 0, 0), 12);
        due("16 the other way", x.game(1, 0, 1), 2);
        due("16 the other way", x.game(1, 0, 2), 0);
        due("16 what", x.game(0, 1, 3), BAD);
        due("16 what", x.game(0, 1, -1), BAD);
        due("16 alike", x.game(1, 1, 0), BAD);
        due("16 i", x.game(3, 1, 0), BAD);
        due("16 i", x.game(-1, 1, 0), BAD);
        due("16 j", x.game(1, 3, 0), BAD);
        due("16 j", x.game(1, LOW, 0), BAD);
        // one wants an even number of turns, the other an odd one
        QueueTurns y = laid("p1,0,90;p1,0,90;s1,9;");
        due("16 no rest", y.game(0, 1, 0), 0);
        due("16 no rest", y.game(0, 1, 1), NONE);
        due("16 no rest", y.game(0, 1, 2), NONE);
        due("16 all alike", laid("p50,0,9;p50,0,9;").game(0, 1, 0), 144);
    }

    private static void laws() {
        QueueTurns x = new QueueTurns();
        int[] want = {2, 1, 1, 0, 0};
        for (int l = -1; l <= 3; l++) {
            due("17 laws(" + l + ")", x.laws(l), want[l + 1]);
        }
        due("17 -2", x.laws(-2), BAD);
        due("17 4", x.laws(4), BAD);
        due("17 low", x.laws(LOW), BAD);
        due("17 high", x.laws(HIGH), BAD);
        due("17 nothing changes", x.count(7), 0);
        due("17 as told", x.all(5), 1);
        due("17 the lowest", laid("p0,0,5;l3;").laws(-1), 0);
        due("17 NEVER told, PLAIN asked", laid("p0,0,50;p0,0,50;p0,1,50;c2,1;l3;").laws(0), 1);
        // at 9 the row is 3 2 1 0 by PLAIN, 0 1 2 3 by the others but MIDDLE
        QueueTurns y = laid("p1,0,50;p2,0,50;p3,0,50;p4,1,50;c3,9;s1,9;");
        due("17 PLAIN", y.laws(0), 6);
        due("17 BEHIND", y.laws(2), 0);
        // five of the row and its end turned: only by NEVER they are served as they came
        QueueTurns z = laid("p1,0,90;p2,0,90;p3,0,90;p4,0,90;p5,1,90;c4,9;s1,9;");
        due("17 BEHIND turns two", z.laws(2), 1);
        due("17 NEVER", z.laws(3), 0);
        due("17 NEVER is best", z.laws(-1), 3);
        // by MIDDLE: 0, 1 0, 1 2 0, 1 3 2 0, turned 0 2 3 1
        due("17 MIDDLE", y.laws(1), 2);
    }

    private static void fraction(String call, long above, long below, long wantAbove, long wantBelow) {
        due(call + " above", above, wantAbove);
        due(call + " below", below, wantBelow);
    }

    private static void means(int n, int k, int x, long above, long below) {
        QueueTurns o = new QueueTurns();
        fraction("18 mean " + n + " " + k + " " + x, o.mean(n, k, x, 0), o.mean(n, k, x, 1), above, below);
    }

    private static void mean() {
        means(1, 0, 5, 0, 1);
        means(2, 1, 3, 7, 10);
        means(2, 0, 5, 1, 2);
        means(3, 0, 5, 3, 4);
        means(3, 1, 5, 3, 2);
        means(3, 2, 5, 3, 4);
        means(9, 8, 0, 8, 1);
        means(9, 0, 0, 0, 1);
        means(9, 8, 10, 0, 1);
        means(9, 0, 10, 1, 1);
        means(9, 4, 3, 11734907, 2000000);
        QueueTurns o = new QueueTurns();
        int[][] bad = {{0, 0, 5, 0}, {10, 0, 5, 0}, {3, -1, 5, 0}, {3, 3, 5, 0}, {3, 0, -1, 0}, {3, 0, 11, 0},
            {3, 0, 5, -1}, {3, 0, 5, 2}, {LOW, LOW, LOW, LOW}, {HIGH, HIGH, HIGH, HIGH}};
        for (int[] b : bad) {
            due("18 bad", o.mean(b[0], b[1], b[2], b[3]), BAD);
        }
    }

    private static void chances(int n, int k, int x, int m, long above, long below) {
        QueueTurns o = new QueueTurns();
        fraction("19 by " + n + " " + k + " " + x + " " + m, o.by(n, k, x, m, 0), o.by(n, k, x, m, 1), above, below);
    }

    private static void by() {
        chances(3, 0, 5, 0, 1, 2);
        chances(3, 0, 5, 1, 3, 4);
        chances(3, 0, 5, 2, 1, 1);
        chances(3, 0, 5, 8, 1, 1);
        chances(3, 1, 5, 0, 0, 1);
        chances(1, 0, 7, 0, 1, 1);
        chances(2, 1, 3, 0, 3, 10);
        chances(9, 0, 1, 0, 9, 10);
        chances(9, 8, 0, 7, 0, 1);
        chances(9, 8, 0, 8, 1, 1);
        chances(9, 4, 3, 5, 43561, 100000);
        QueueTurns o = new QueueTurns();
        int[][] bad = {{0, 0, 5, 0, 0}, {10, 0, 5, 0, 0}, {3, -1, 5, 0, 0}, {3, 3, 5, 0, 0}, {3, 0, -1, 0, 0},
            {3, 0, 11, 0, 0}, {3, 0, 5, -1, 0}, {3, 0, 5, 9, 0}, {3, 0, 5, 0, -1}, {3, 0, 5, 0, 2}};
        for (int[] b : bad) {
            due("19 bad", o.by(b[0], b[1], b[2], b[3], b[4]), BAD);
        }
    }

    private static void best() {
        QueueTurns o = new QueueTurns();
        due("20 alone", o.best(1, 5, 0), 0);
        due("20 alone", o.best(1, 10, 1), 0);
        due("20 alike", o.best(2, 5, 0), 0);
        due("20 alike", o.best(2, 5, 1), 0);
        due("20 less", o.best(2, 6, 0), 1);
        due("20 less", o.best(2, 6, 1), 1);
        due("20 more", o.best(2, 4, 0), 0);
        due("20 all turn", o.best(9, 10, 0), 8);
        due("20 all turn", o.best(9, 10, 1), 8);
        due("20 none turns", o.best(9, 0, 1), 0);
        int[][] bad = {{0, 5, 0}, {10, 5, 0}, {3, -1, 0}, {3, 11, 0}, {3, 5, -1}, {3, 5, 2}};
        for (int[] b : bad) {
            due("20 bad", o.best(b[0], b[1], b[2]), BAD);
        }
    }

    private static void name() {
        QueueTurns x = new QueueTurns();
        int[][] bad = {{-1, 0}, {2, 0}, {0, -1}, {0, 11}, {1, 10}, {1, -1}, {1, 11}, {LOW, 0}, {HIGH, HIGH}};
        for (int[] b : bad) {
            due("21 bad", x.name(b[0], b[1]), BAD);
        }
        due("21 none yet", x.count(4) + x.count(5), 0);
        for (int v = 0; v < 8; v++) {
            due("21 stood", x.name(1, v), v + 1);
        }
        due("21 in it", x.name(1, 3), NO);
        due("21 ninth", x.name(1, 8), 9);
        due("21 full", x.name(1, 9), FULL);
        due("21 NO ahead of FULL", x.name(1, 3), NO);
        due("21 BAD ahead of NO", x.name(1, 10), BAD);
        due("21 served", x.name(0, 9), 1);
        due("21 in it", x.name(0, 9), NO);
        for (int k = 2; k <= 9; k++) {
            due("21 unseen", x.name(0, 10), k);
        }
        due("21 full", x.name(0, 10), FULL);
        due("21 full", x.name(0, 1), FULL);
        due("21 NO ahead of FULL", x.name(0, 9), NO);
    }

    private static void noNames() {
        QueueTurns x = new QueueTurns();
        due("22 none", x.noNames(), 0);
        x.name(0, 10);
        x.name(0, 4);
        x.name(1, 4);
        due("22 three", x.noNames(), 3);
        due("22 none", x.noNames(), 0);
        due("22 served", x.count(4), 0);
        due("22 stood", x.count(5), 0);
        due("22 anew", x.name(0, 4), 1);
    }

    private static void fits() {
        QueueTurns x = new QueueTurns();
        due("23 nobody", x.fits(0), NO);
        due("23 nobody", x.fits(1), NO);
        due("23 BAD ahead of NO", x.fits(2), BAD);
        due("23 BAD", x.fits(-1), BAD);
        x.name(1, 5);
        x.name(1, 6);
        due("23 nothing seen", x.fits(0), 4);
        due("23 nothing seen", x.fits(1), 0);
        x.name(0, 6);
        due("23 it turned", x.fits(0), 2);
        due("23 it turned", x.fits(1), 1);
        x.name(0, 5);
        due("23 both", x.fits(0), 2);
        x.name(0, 10);
        due("23 more than stood", x.fits(0), NO);
        x.noNames();
        x.name(1, 1);
        x.name(1, 2);
        x.name(1, 3);
        x.name(0, 2);
        due("23 the middle one", x.fits(0), 0);
        due("23 the middle one", x.fits(1), NONE);
        x.noNames();
        x.name(1, 1);
        x.name(0, 7);
        due("23 a stranger", x.fits(0), 0);
        x.noNames();
        // 1 2 3 4: 4 in minute 0 (turned), 1 in minute 1 (turned back): the row is 2 3 then
        for (int v = 1; v <= 4; v++) {
            x.name(1, v);
        }
        x.name(0, 4);
        x.name(0, 1);
        due("23 there and back", x.fits(0), 4);
        due("23 there and back", x.fits(1), 3);
        x.name(0, 10);
        x.name(0, 3);
        due("23 the last was 3", x.fits(0), 2);
        due("23 the last was 3", x.fits(1), 3);
    }

    private static boolean isDrawn(int z, int k, int t) {
        long x = 7919L * z + 6151L * k + 3571L * t + 1;
        return (x * x) % 65521 % 20 == 0;
    }

    private static void drawn() {
        QueueTurns x = new QueueTurns();
        for (int z = 0; z <= 9999; z++) {
            if (z % 100 == 0) {
                x = new QueueTurns();
            }
            int turns = (isDrawn(z, 0, 1) ? 1 : 0) + (isDrawn(z, 0, 2) ? 1 : 0);
            boolean childFirst = turns == 1;
            if (!childFirst) {
                turns += (isDrawn(z, 0, 3) ? 1 : 0) + (isDrawn(z, 0, 4) ? 1 : 0);
            }
            due("24 served " + z, x.drawn(z, 0), 3);
            due("24 turns " + z, x.drawn(z, 1), turns);
            due("24 unfair " + z, x.drawn(z, 2), childFirst ? 1 : 0);
        }
        due("24 z", x.drawn(-1, 0), BAD);
        due("24 z", x.drawn(10000, 0), BAD);
        due("24 what", x.drawn(0, -1), BAD);
        due("24 what", x.drawn(0, 3), BAD);
        due("24 nothing changes", x.all(4), 1);
        // the children are numbered by themselves: PERSON 3 is child 1
        QueueTurns y = laid("p1,0,9;p1,1,2;p1,0,9;p1,1,9;s1,9;");
        for (int z = 0; z < 200; z++) {
            int turns = isDrawn(z, 0, 2) || isDrawn(z, 1, 2) ? 1 : 0;
            for (int t = 3; t <= 9; t++) {
                turns += isDrawn(z, 1, t) ? 1 : 0;
            }
            due("24 two children " + z, y.drawn(z, 1), turns);
            due("24 two children, served " + z, y.drawn(z, 0), 1);
        }
        QueueTurns first = laid("p1,1,5;s1,9;");
        for (int z = 0; z < 200; z++) {
            int turns = 0;
            for (int t = 2; t <= 5; t++) {
                turns += isDrawn(z, 0, t) ? 1 : 0;
            }
            due("24 PERSON 0 is child 0 " + z, first.drawn(z, 1), turns);
        }
        due("24 by NEVER", laid("p1,1,99;s1,9;l3;").drawn(0, 1), 0);
    }

    private static void keepAndBack() {
        QueueTurns x = new QueueTurns();
        due("26 none", x.back(), NO);
        due("25 keep", x.keep(), 1);
        x.tell(2, 2);
        x.tell(2, 7);
        due("25 keep", x.keep(), 2);
        due("25 full", x.keep(), FULL);
        due("25 can be taken back still", x.takeBack(), 1);
        due("13 and this", x.takeBack(), 0);
        x.tell(2, 50);
        due("26 back", x.back(), 1);
        due("26 cries", x.count(1), 3);
        due("26 minute", x.cry(2, 1), 7);
        due("26 none ahead of it", x.takeBack(), NO);
        due("26 none", x.count(2), 0);
        due("26 one behind it", x.tell(2, 60), 4);
        due("26 one", x.count(2), 1);
        due("26 taken back", x.takeBack(), 0);
        due("26 no more", x.takeBack(), NO);
        due("26 back", x.back(), 0);
        due("26 cries", x.count(1), 1);
        due("26 morning", x.all(4), 1);
        due("26 no more", x.back(), NO);
        due("25 anew", x.keep(), 1);
        due("3 wipe leaves it", x.wipe(), 0);
        due("27 kept", x.count(3), 1);
    }

    private static void count() {
        QueueTurns x = laid("p0,1,9;p0,0,9;c0,1;c0,2;l2;");
        x.tell(0, 3);
        x.keep();
        x.name(0, 10);
        x.name(0, 10);
        x.name(1, 0);
        int[] want = {2, 3, 1, 1, 2, 1, 27, 2, BAD};
        for (int w = 0; w < want.length; w++) {
            due("27 count(" + w + ")", x.count(w), want[w]);
        }
        due("27 -1", x.count(-1), BAD);
        due("27 low", x.count(LOW), BAD);
        due("27 high", x.count(HIGH), BAD);
    }
}
