import java.lang.reflect.InvocationTargetException;
import java.lang.reflect.Method;
import java.lang.reflect.Modifier;
import java.nio.charset.StandardCharsets;
import java.util.ArrayList;
import java.util.List;
import java.util.Map;
import java.util.TreeMap;

/** What the edge tests share: a runner by name, texts laid, and twins that show whether a call changed anything. */
final class Edges {
    static final int BAD = -1, NO = -2, FULL = -3, NONE = -4;
    static final int LOW = Integer.MIN_VALUE, HIGH = Integer.MAX_VALUE;
    /** Far from every number that any call takes; the last ones would be fine if only their lowest byte or half counted. */
    static final int[] FAR = {LOW, LOW + 1, HIGH - 1, HIGH, 1 << 8, 1 << 16, -(1 << 8), (1 << 8) + 1, (1 << 16) + 1};

    private static String running = "";
    private static int wrong = 0;

    private Edges() { }

    interface Call {
        long on(QueueTurns x);
    }

    interface State {
        QueueTurns make();
    }

    /** Runs every test of the class, a test being a static method named p, the promise's two figures and the case. */
    static void run(Class<?> tests) {
        Map<String, Method> byName = new TreeMap<>();
        for (Method m : tests.getDeclaredMethods()) {
            if (Modifier.isStatic(m.getModifiers()) && m.getName().matches("p\\d\\d_.*")) {
                byName.put(m.getName(), m);
            }
        }
        for (Method m : byName.values()) {
            runOne(m);
        }
        System.out.println(byName.size() + " edges, " + (wrong == 0 ? "all as due" : wrong + " answers not as due"));
        if (wrong != 0 || byName.isEmpty()) {
            System.exit(1);
        }
    }

    private static void runOne(Method m) {
        running = m.getName();
        try {
            m.setAccessible(true);
            m.invoke(null);
        } catch (InvocationTargetException thrown) {
            tellWrong("threw " + thrown.getCause());
        } catch (IllegalAccessException closed) {
            tellWrong("can't be run: " + closed);
        }
    }

    private static void tellWrong(String how) {
        wrong++;
        StringBuilder plain = new StringBuilder();
        for (char c : how.toCharArray()) {
            plain.append(c < 32 || c > 126 ? "<" + (int) c + ">" : String.valueOf(c));
        }
        System.out.println(running + ": " + plain);
    }

    static void due(String call, long got, long want) {
        if (got != want) {
            tellWrong(call + " answered " + got + ", due is " + want);
        }
    }

    /** Each of the calls below answers BAD for each number that is far from all that are told. */
    static void farAreBad(String call, FarCall far) {
        for (int v : FAR) {
            due(call + " of " + v, far.of(v), BAD);
        }
    }

    interface FarCall {
        long of(int v);
    }

    /** By as few calls as can be, since an object is used for 512. */
    static void put(QueueTurns x, String text) {
        byte[] bytes = text.getBytes(StandardCharsets.ISO_8859_1);
        int length = x.count(6);
        for (int at = 0; at < bytes.length; at += 8) {
            int n = Math.min(8, bytes.length - at);
            long v = 0;
            for (int k = 0; k < n; k++) {
                v = v << 8 | (bytes[at + k] & 255);
            }
            length += n;
            due("write of " + text, x.write(n, v), length);
        }
    }

    static QueueTurns written(String text) {
        QueueTurns x = new QueueTurns();
        put(x, text);
        return x;
    }

    static QueueTurns laid(String text) {
        QueueTurns x = written(text);
        due("lay of " + text, x.lay(), text.chars().filter(c -> c == 'p').count());
        return x;
    }

    static void layAnew(QueueTurns x, String text) {
        x.wipe();
        put(x, text);
        due("lay of " + text, x.lay(), text.chars().filter(c -> c == 'p').count());
    }

    // ---- states in which calls are refused

    static QueueTurns fresh() {
        return new QueueTurns();
    }

    /** Something of all: a TEXT that isn't LAID any more, told cries, one KEPT, names in both rows. */
    static QueueTurns busy() {
        QueueTurns x = laid("p0,0,50;p1,1,50;p1,0,9;p2,1,30;c1,2;c3,4;q1;s1,3;b3;l1;");
        x.wipe();
        put(x, "p7,1,70;c0,9;l2;");
        x.tell(1, 5);
        x.keep();
        x.tell(3, 7);
        x.tell(1, 8);
        for (int v : new int[] {4, 7, 2, 0}) {
            x.name(1, v);
        }
        x.name(0, 0);
        x.name(0, 10);
        return x;
    }

    /** As busy(), but with a FAULT in THE TEXT. */
    static QueueTurns faulty() {
        QueueTurns x = busy();
        put(x, "c1,1;");
        return x;
    }

    /** As busy(), but THE TEXT tells of nobody. */
    static QueueTurns nobodyTold() {
        QueueTurns x = busy();
        x.wipe();
        put(x, "q5;l3;");
        return x;
    }

    /** No room for anything more: 300 bytes, 8 cries, 2 KEPT, 9 names in both rows. */
    static QueueTurns full() {
        QueueTurns x = laid("p0,0,50;p0,1,50;p1,0,50;p1,0,50;c1,1;c1,3;s1,3;");
        put(x, "q5;".repeat((300 - x.count(6)) / 3));
        put(x, "p".repeat(300 - x.count(6)));
        x.tell(1, 4);
        x.keep();
        for (int m = 5; m < 10; m++) {
            x.tell(1, m);
        }
        x.keep();
        for (int v = 0; v < 9; v++) {
            x.name(1, v);
            x.name(0, v == 4 ? 10 : v);
        }
        return x;
    }

    // ---- what can be asked

    /** The call answers as due, and behind it the object answers all else as its twin does without that call. */
    static void changesNothing(State state, String call, Call made, long want) {
        QueueTurns x = state.make();
        due(call, made.on(x), want);
        List<String> behind = answers(x);
        List<String> without = answers(state.make());
        for (int k = 0; k < Math.max(behind.size(), without.size()); k++) {
            String one = k < behind.size() ? behind.get(k) : "nothing";
            String other = k < without.size() ? without.get(k) : "nothing";
            if (!one.equals(other)) {
                tellWrong("behind " + call + " there is " + one + ", without it " + other);
                return;
            }
        }
    }

    /** What all calls answer one behind the other, those that change something at the end. */
    static List<String> answers(QueueTurns x) {
        List<String> all = new ArrayList<>();
        tellCounts(x, all);
        all.add("fault " + x.fault());
        tellMorning(x, all);
        tellCries(x, all);
        tellStudy(x, all);
        for (int what = 0; what < 2; what++) {
            all.add("fits " + what + " " + x.fits(what));
        }
        for (int k = 0; k < 9 && all.add("takeBack " + x.takeBack()); k++) {
            all.add("cries " + x.count(1));
        }
        for (int k = 0; k < 3; k++) {
            all.add("back " + x.back());
            tellCries(x, all);
        }
        for (int v = 0; v <= 10; v++) {
            all.add("name served " + v + " " + x.name(0, v));
            all.add("name stood " + v + " " + x.name(1, v));
        }
        all.add("fits " + x.fits(0));
        all.add("noNames " + x.noNames());
        all.add("lay " + x.lay());
        tellCounts(x, all);
        tellMorning(x, all);
        all.add("wipe " + x.wipe());
        return all;
    }

    private static void tellCounts(QueueTurns x, List<String> all) {
        for (int what = 0; what < 8; what++) {
            all.add("count " + what + " " + x.count(what));
        }
    }

    private static void tellMorning(QueueTurns x, List<String> all) {
        for (int i = 0; i < Math.min(10, x.count(0)); i++) {
            for (int what = 0; what < 5; what++) {
                all.add("person " + i + " " + what + " " + x.person(i, what));
            }
            for (int t = 0; t < 6; t++) {
                all.add("place " + i + " " + t + " " + x.place(i, t));
            }
        }
        for (int what = 0; what < 6; what++) {
            all.add("all " + what + " " + x.all(what));
        }
        all.add("row " + x.row(3));
    }

    private static void tellCries(QueueTurns x, List<String> all) {
        for (int c = 0; c < Math.min(8, x.count(1)); c++) {
            for (int what = 0; what < 3; what++) {
                all.add("cry " + c + " " + what + " " + x.cry(c, what));
            }
        }
        all.add("suspect " + x.suspect());
    }

    private static void tellStudy(QueueTurns x, List<String> all) {
        all.add("hush " + x.hush(0, 20));
        all.add("again " + x.again(0, 0));
        all.add("game " + x.game(0, 1, 0));
        all.add("mean " + x.mean(9, 4, 3, 0));
        all.add("by " + x.by(9, 4, 3, 5, 0));
        all.add("best " + x.best(9, 3, 0));
        for (int l = -1; l < 4; l++) {
            all.add("laws " + l + " " + x.laws(l));
        }
        for (int what = 0; what < 3; what++) {
            all.add("drawn " + what + " " + x.drawn(7, what));
        }
    }
}
