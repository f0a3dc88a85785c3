import java.math.BigInteger;
import java.util.ArrayList;
import java.util.Arrays;
import java.util.Collections;
import java.util.List;
import java.util.Random;
import java.util.function.BiPredicate;
import java.util.regex.Matcher;
import java.util.regex.Pattern;

/**
 * Runs of 512 calls with drawn arguments, wrong ones among them, each answer held against a second program
 * that follows the document by another way (lists, all minutes written down, all sets of turns gone through).
 */
public final class ModelTests {
    private static final int BAD = -1, NO = -2, FULL = -3, NONE = -4;
    private static final int RUNS = 300;
    private static final int CALLS = 512;

    private final Random random;
    private final QueueTurns subject = new QueueTurns();
    private final Model model = new Model();

    private ModelTests(long seed) {
        random = new Random(seed);
    }

    public static void main(String[] args) {
        int wrong = 0;
        for (int seed = 1; seed <= RUNS && wrong < 20; seed++) {
            wrong += new ModelTests(seed).run(seed);
        }
        System.out.println(wrong == 0 ? "both programs answer alike" : wrong + " answers are not alike");
        if (wrong != 0) {
            System.exit(1);
        }
    }

    private int run(int seed) {
        int calls = 0;
        while (calls < CALLS) {
            String[] told = new String[1];
            long[] both = new long[2];
            int made = random.nextInt(12) == 0 ? writeText(both, told, CALLS - calls) : call(both, told);
            calls += made;
            if (both[0] != both[1]) {
                System.out.println("seed " + seed + ", call " + calls + ": " + told[0] + " answered " + both[0]
                    + ", the model " + both[1] + "; laid " + model.persons + " " + model.cries);
                return 1;
            }
        }
        return 0;
    }

    private int writeText(long[] both, String[] told, int room) {
        String text = drawText();
        int calls = 0;
        if (random.nextInt(4) != 0 && calls < room) {
            subject.wipe();
            model.text = "";
            calls++;
        }
        for (int at = 0; at < text.length() && calls < room; calls++) {
            int n = Math.min(text.length() - at, 1 + random.nextInt(8));
            long v = random.nextInt(2) == 0 ? 0 : -1;
            for (int k = 0; k < n; k++) {
                v = v << 8 | text.charAt(at + k);
            }
            both[0] = subject.write(n, v);
            both[1] = model.write(text.substring(at, at + n));
            told[0] = "write";
            if (both[0] != both[1]) {
                return calls;
            }
            at += n;
        }
        if (calls < room) {
            both[0] = subject.fault();
            both[1] = model.fault();
            told[0] = "fault of " + model.text;
            calls++;
        }
        if (calls < room && both[0] == both[1]) {
            both[0] = subject.lay();
            both[1] = model.lay();
            told[0] = "lay of " + model.text;
            calls++;
        }
        return Math.max(calls, 1);
    }

    private String drawText() {
        StringBuilder text = new StringBuilder();
        int persons = 1 + random.nextInt(10);
        int span = 1 + random.nextInt(random.nextInt(3) == 0 ? 100 : 12);
        List<Integer> withChild = new ArrayList<>();
        for (int i = 0; i < persons; i++) {
            int child = random.nextInt(2);
            if (child == 1) {
                withChild.add(i);
            }
            text.append('p').append(random.nextInt(span)).append(',').append(child).append(',')
                .append(1 + random.nextInt(random.nextInt(3) == 0 ? 9 : 99)).append(';');
        }
        int cries = withChild.isEmpty() ? 0 : random.nextInt(9);
        for (int c = 0; c < cries; c++) {
            text.append('c').append(withChild.get(random.nextInt(withChild.size()))).append(',')
                .append(Math.min(99, random.nextInt(span + 20))).append(';');
        }
        maybe(text, "q" + random.nextInt(random.nextInt(2) == 0 ? 31 : 4));
        maybe(text, "s" + (1 + random.nextInt(random.nextInt(3) == 0 ? 9 : 2)) + "," + (1 + random.nextInt(9)));
        maybe(text, "b" + random.nextInt(random.nextInt(2) == 0 ? 100 : 10));
        maybe(text, "l" + random.nextInt(4));
        if (random.nextInt(4) == 0) {
            spoil(text);
        }
        return text.toString();
    }

    private void maybe(StringBuilder text, String item) {
        if (random.nextInt(3) != 0) {
            text.append(item).append(';');
        }
    }

    private void spoil(StringBuilder text) {
        String signs = "pcqsbl0123456789,;;,\u00ff x";
        for (int k = random.nextInt(3); k >= 0; k--) {
            int at = random.nextInt(text.length());
            char sign = signs.charAt(random.nextInt(signs.length()));
            switch (random.nextInt(3)) {
                case 0 -> text.setCharAt(at, sign);
                case 1 -> text.insert(at, sign);
                default -> text.deleteCharAt(at);
            }
            if (text.length() == 0) {
                text.append('q');
            }
        }
    }

    /** Mostly from low to high, sometimes beside it or far from it. */
    private int number(int low, int high) {
        int[] far = {Integer.MIN_VALUE, Integer.MAX_VALUE, -1, low - 1, high + 1, high + 2, 1 << 30};
        if (random.nextInt(25) == 0) {
            return far[random.nextInt(far.length)];
        }
        return low + random.nextInt(high - low + 1);
    }

    private int call(long[] both, String[] told) {
        int which = random.nextInt(23);
        int people = Math.max(0, model.persons.size() - 1);
        int i = number(0, people);
        int j = number(0, people);
        int t = random.nextBoolean() ? number(0, 199) : number(0, 20);
        int m = random.nextBoolean() ? number(0, 99) : number(0, 20);
        int n = number(1, 9);
        int k = number(0, Math.max(1, Math.min(n, 9)) - 1);
        int x = number(0, 10);
        int two = number(0, 1);
        int three = number(0, 2);
        int c = number(0, Math.max(0, model.cries.size() - 1));
        int v = number(0, 10);
        int z = number(0, 9999);
        switch (which) {
            case 0 -> set(both, told, subject.person(i, n - 1), model.person(i, n - 1), "person", i, n - 1);
            case 1 -> set(both, told, subject.place(i, t), model.place(i, t), "place", i, t);
            case 2 -> set(both, told, subject.row(t), model.row(t), "row", t);
            case 3 -> set(both, told, subject.all(n - 1), model.all(n - 1), "all", n - 1);
            case 4 -> set(both, told, subject.cry(c, three), model.cry(c, three), "cry", c, three);
            case 5 -> set(both, told, subject.suspect(), model.suspect(), "suspect");
            case 6 -> set(both, told, subject.tell(i, m), model.tell(i, m), "tell", i, m);
            case 7 -> set(both, told, subject.takeBack(), model.takeBack(), "takeBack");
            case 8 -> {
                if (random.nextInt(5) == 0) {
                    set(both, told, subject.hush(i, t), model.hush(i, t), "hush", i, t);
                }
            }
            case 9 -> {
                if (random.nextInt(3) == 0) {
                    set(both, told, subject.again(i, two), model.again(i, two), "again", i, two);
                }
            }
            case 10 -> {
                if (random.nextInt(4) == 0) {
                    set(both, told, subject.game(i, j, three), model.game(i, j, three), "game", i, j, three);
                }
            }
            case 11 -> set(both, told, subject.laws(x - 4), model.laws(x - 4), "laws", x - 4);
            case 12 -> set(both, told, subject.mean(n, k, x, two), model.mean(n, k, x, two), "mean", n, k, x, two);
            case 13 -> {
                int minute = number(0, 8);
                set(both, told, subject.by(n, k, x, minute, two), model.by(n, k, x, minute, two), "by", n, k, x, minute, two);
            }
            case 14 -> set(both, told, subject.best(n, x, two), model.best(n, x, two), "best", n, x, two);
            case 15, 16, 17 -> set(both, told, subject.name(two, v), model.name(two, v), "name", two, v);
            case 18 -> {
                if (random.nextInt(4) == 0) {
                    set(both, told, subject.noNames(), model.noNames(), "noNames");
                }
            }
            case 19 -> set(both, told, subject.fits(two), model.fits(two), "fits", two);
            case 20 -> set(both, told, subject.drawn(z, three), model.drawn(z, three), "drawn", z, three);
            case 21 -> {
                if (random.nextBoolean()) {
                    set(both, told, subject.keep(), model.keep(), "keep");
                } else {
                    set(both, told, subject.back(), model.back(), "back");
                }
            }
            default -> set(both, told, subject.count(n - 1), model.count(n - 1), "count", n - 1);
        }
        return 1;
    }

    private static void set(long[] both, String[] told, long got, long want, String call, int... arguments) {
        both[0] = got;
        both[1] = want;
        told[0] = call + Arrays.toString(arguments);
    }

    private record Person(int comes, boolean child, int waits) { }

    private record Cry(int who, int minute) { }

    /** What became of a morning; rows are written down minute by minute. */
    private static final class Outcome {
        final List<List<Integer>> rows = new ArrayList<>();
        final int[] how = new int[10];
        final int[] when = new int[10];
        int turns = 0;

        int time(int i) {
            return how[i] == 0 ? when[i] : 200;
        }
    }

    private static final class Model {
        String text = "";
        List<Person> persons = List.of(new Person(0, false, 50), new Person(0, false, 50), new Person(0, true, 50));
        List<Cry> cries = new ArrayList<>(List.of(new Cry(2, 1)));
        int quiet = 0, many = 1, every = 2, loaves = 99, law = 0;
        int fixed = 1;
        final List<List<Cry>> kept = new ArrayList<>();
        final List<Integer> served = new ArrayList<>();
        final List<Integer> stood = new ArrayList<>();

        int write(String more) {
            if (text.length() + more.length() > 300) {
                return FULL;
            }
            text += more;
            return text.length();
        }

        private static final Pattern ITEM = Pattern.compile(
            "p(\\d\\d?),0?([01]),(\\d\\d?);|c(\\d\\d?),(\\d\\d?);|q(\\d\\d?);|s0?([1-9]),0?([1-9]);|b(\\d\\d?);|l0?([0-3]);");

        int fault() {
            return readInto(new Model());
        }

        int readInto(Model to) {
            List<Person> people = new ArrayList<>();
            List<Cry> told = new ArrayList<>();
            to.quiet = 0;
            to.many = 1;
            to.every = 2;
            to.loaves = 99;
            to.law = 0;
            Matcher item = ITEM.matcher(text);
            int at = 0;
            while (at < text.length()) {
                item.region(at, text.length());
                if (!item.lookingAt()) {
                    return at;
                }
                if (item.group(1) != null) {
                    int waits = Integer.parseInt(item.group(3));
                    if (waits == 0 || people.size() == 10) {
                        return at;
                    }
                    people.add(new Person(Integer.parseInt(item.group(1)), item.group(2).equals("1"), waits));
                } else if (item.group(4) != null) {
                    int who = Integer.parseInt(item.group(4));
                    if (who >= people.size() || !people.get(who).child() || told.size() == 8) {
                        return at;
                    }
                    told.add(new Cry(who, Integer.parseInt(item.group(5))));
                } else if (item.group(6) != null) {
                    to.quiet = Integer.parseInt(item.group(6));
                    if (to.quiet > 30) {
                        return at;
                    }
                } else if (item.group(7) != null) {
                    to.many = Integer.parseInt(item.group(7));
                    to.every = Integer.parseInt(item.group(8));
                } else if (item.group(9) != null) {
                    to.loaves = Integer.parseInt(item.group(9));
                } else {
                    to.law = Integer.parseInt(item.group(10));
                }
                at = item.end();
            }
            to.persons = people;
            to.cries = told;
            return NONE;
        }

        int lay() {
            Model read = new Model();
            if (readInto(read) != NONE || read.persons.isEmpty()) {
                return NO;
            }
            persons = read.persons;
            cries = read.cries;
            quiet = read.quiet;
            many = read.many;
            every = read.every;
            loaves = read.loaves;
            law = read.law;
            fixed = cries.size();
            kept.clear();
            served.clear();
            stood.clear();
            return persons.size();
        }

        Outcome morning(List<Cry> told, int byLaw) {
            return morning((t, row) -> told.stream().anyMatch(c -> c.minute() == t && row.contains(c.who())), byLaw);
        }

        Outcome morning(BiPredicate<Integer, List<Integer>> cries, int byLaw) {
            Outcome o = new Outcome();
            Arrays.fill(o.how, 3);
            Arrays.fill(o.when, 200);
            List<Integer> row = new ArrayList<>();
            int left = loaves;
            int latest = -1000;
            for (int t = 0; t < 200; t++) {
                for (int i = 0; i < persons.size(); i++) {
                    if (row.contains(i) && persons.get(i).comes() + persons.get(i).waits() == t) {
                        leave(o, row, i, 1, t);
                    }
                }
                if (cries.test(t, row) && t - latest > quiet && byLaw != 3) {
                    int from = byLaw == 2 ? Math.min(3, row.size()) : 0;
                    Collections.reverse(row.subList(from, row.size()));
                    latest = t;
                    o.turns++;
                }
                for (int i = 0; i < persons.size(); i++) {
                    if (persons.get(i).comes() == t) {
                        row.add(byLaw == 1 ? row.size() / 2 : row.size(), i);
                    }
                }
                for (int k = 0; k < many && t % every == 0 && left > 0 && !row.isEmpty(); k++) {
                    leave(o, row, row.get(0), 0, t);
                    left--;
                }
                while (left == 0 && !row.isEmpty()) {
                    leave(o, row, row.get(0), 2, t);
                }
                o.rows.add(new ArrayList<>(row));
            }
            return o;
        }

        static void leave(Outcome o, List<Integer> row, int i, int how, int t) {
            row.remove(Integer.valueOf(i));
            o.how[i] = how;
            o.when[i] = t;
        }

        Outcome told() {
            return morning(cries, law);
        }

        int unfair(Outcome o) {
            int pairs = 0;
            for (int i = 0; i < persons.size(); i++) {
                for (int j = 0; j < persons.size(); j++) {
                    int a = persons.get(i).comes();
                    int b = persons.get(j).comes();
                    boolean later = a > b || a == b && i > j;
                    if (later && o.how[i] == 0 && o.how[j] == 0 && o.when[i] < o.when[j]) {
                        pairs++;
                    }
                }
            }
            return pairs;
        }

        boolean noPerson(int i) {
            return i < 0 || i >= persons.size();
        }

        static boolean out(int v, int low, int high) {
            return v < low || v > high;
        }

        int person(int i, int what) {
            if (noPerson(i) || out(what, 0, 4)) {
                return BAD;
            }
            Person p = persons.get(i);
            Outcome o = told();
            return new int[] {p.comes(), p.child() ? 1 : 0, p.waits(), o.how[i], o.when[i]}[what];
        }

        int place(int i, int t) {
            if (noPerson(i) || out(t, 0, 199)) {
                return BAD;
            }
            int at = told().rows.get(t).indexOf(i);
            return at < 0 ? NONE : at;
        }

        int row(int t) {
            return out(t, 0, 199) ? BAD : told().rows.get(t).size();
        }

        int all(int what) {
            if (out(what, 0, 5)) {
                return BAD;
            }
            Outcome o = told();
            if (what >= 4) {
                return what == 4 ? o.turns : unfair(o);
            }
            int n = 0;
            for (int i = 0; i < persons.size(); i++) {
                n += o.how[i] == what ? 1 : 0;
            }
            return n;
        }

        List<Cry> without(int bits) {
            List<Cry> rest = new ArrayList<>();
            for (int c = 0; c < cries.size(); c++) {
                if ((bits & 1 << c) == 0) {
                    rest.add(cries.get(c));
                }
            }
            return rest;
        }

        List<Cry> with(Cry... more) {
            List<Cry> all = new ArrayList<>(cries);
            Collections.addAll(all, more);
            return all;
        }

        int cry(int c, int what) {
            if (out(c, 0, cries.size() - 1) || out(what, 0, 2)) {
                return BAD;
            }
            int who = cries.get(c).who();
            return switch (what) {
                case 0 -> who;
                case 1 -> cries.get(c).minute();
                default -> 200 + morning(without(1 << c), law).time(who) - told().time(who);
            };
        }

        int suspect() {
            int best = NONE;
            for (int c = cries.size() - 1; c >= 0; c--) {
                if (best == NONE || cry(c, 2) >= cry(best, 2)) {
                    best = c;
                }
            }
            return best;
        }

        int tell(int i, int m) {
            if (noPerson(i) || !persons.get(i).child() || out(m, 0, 99)) {
                return BAD;
            }
            if (cries.size() == 8) {
                return FULL;
            }
            cries.add(new Cry(i, m));
            return cries.size();
        }

        int takeBack() {
            if (cries.size() == fixed) {
                return NO;
            }
            cries.remove(cries.size() - 1);
            return cries.size() - fixed;
        }

        int hush(int i, int m) {
            if (noPerson(i) || out(m, 0, 199)) {
                return BAD;
            }
            int best = NONE;
            for (int set = (1 << cries.size()) - 1; set >= 0; set--) {
                if (morning(without(set), law).time(i) <= m
                    && (best == NONE || Integer.bitCount(set) <= Integer.bitCount(best))) {
                    best = set;
                }
            }
            return best;
        }

        int again(int i, int what) {
            if (noPerson(i) || out(what, 0, 1)) {
                return BAD;
            }
            int[] times = new int[100];
            for (int x = 0; x < 100; x++) {
                times[x] = morning(with(new Cry(i, x)), law).time(i);
            }
            int least = Arrays.stream(times).min().getAsInt();
            int first = 0;
            while (times[first] != least) {
                first++;
            }
            int worth = told().time(i) - least;
            return worth <= 0 ? NONE : what == 0 ? first : worth;
        }

        int game(int i, int j, int what) {
            if (noPerson(i) || noPerson(j) || i == j || out(what, 0, 2)) {
                return BAD;
            }
            int[][] ofI = new int[12][12];
            int[][] ofJ = new int[12][12];
            for (int a = 0; a < 12; a++) {
                for (int b = 0; b < 12; b++) {
                    Outcome o = morning(with(new Cry(i, a), new Cry(j, b)), law);
                    ofI[a][b] = o.time(i);
                    ofJ[a][b] = o.time(j);
                }
            }
            List<int[]> rests = new ArrayList<>();
            for (int a = 0; a < 12; a++) {
                for (int b = 0; b < 12; b++) {
                    int leastI = 1000;
                    for (int[] times : ofI) {
                        leastI = Math.min(leastI, times[b]);
                    }
                    if (ofI[a][b] == leastI && ofJ[a][b] == Arrays.stream(ofJ[a]).min().getAsInt()) {
                        rests.add(new int[] {a, b});
                    }
                }
            }
            if (what == 0) {
                return rests.size();
            }
            return rests.isEmpty() ? NONE : rests.get(0)[what - 1];
        }

        int laws(int l) {
            if (out(l, -1, 3)) {
                return BAD;
            }
            if (l >= 0) {
                return unfair(morning(cries, l));
            }
            int best = 3;
            for (int o = 2; o >= 0; o--) {
                best = laws(o) <= laws(best) ? o : best;
            }
            return best;
        }

        /** How many of 10 to the n-th ways there are in which he is served in each minute. */
        static BigInteger[] ways(int n, int k, int x) {
            BigInteger[] at = new BigInteger[n];
            Arrays.fill(at, BigInteger.ZERO);
            for (int set = 0; set < 1 << n; set++) {
                BigInteger weight = BigInteger.ONE;
                List<Integer> line = new ArrayList<>();
                for (int p = 0; p < n; p++) {
                    line.add(p);
                }
                int minute = -1;
                for (int t = 0; t < n; t++) {
                    boolean turned = (set >> t & 1) == 1;
                    weight = weight.multiply(BigInteger.valueOf(turned ? x : 10 - x));
                    if (turned) {
                        Collections.reverse(line);
                    }
                    if (line.remove(0) == k) {
                        minute = t;
                    }
                }
                at[minute] = at[minute].add(weight);
            }
            return at;
        }

        static BigInteger meanSum(int n, int k, int x) {
            BigInteger sum = BigInteger.ZERO;
            BigInteger[] at = ways(n, k, x);
            for (int t = 0; t < n; t++) {
                sum = sum.add(at[t].multiply(BigInteger.valueOf(t)));
            }
            return sum;
        }

        static long lowest(BigInteger above, int n, int part) {
            BigInteger below = BigInteger.TEN.pow(n);
            BigInteger shared = above.gcd(below);
            return (part == 0 ? above : below).divide(shared).longValueExact();
        }

        static long mean(int n, int k, int x, int part) {
            if (out(n, 1, 9) || out(k, 0, n - 1) || out(x, 0, 10) || out(part, 0, 1)) {
                return BAD;
            }
            return lowest(meanSum(n, k, x), n, part);
        }

        static long by(int n, int k, int x, int m, int part) {
            if (out(n, 1, 9) || out(k, 0, n - 1) || out(x, 0, 10) || out(m, 0, 8) || out(part, 0, 1)) {
                return BAD;
            }
            BigInteger sum = BigInteger.ZERO;
            BigInteger[] at = ways(n, k, x);
            for (int t = 0; t <= m && t < n; t++) {
                sum = sum.add(at[t]);
            }
            return lowest(sum, n, part);
        }

        static int best(int n, int x, int what) {
            if (out(n, 1, 9) || out(x, 0, 10) || out(what, 0, 1)) {
                return BAD;
            }
            int best = 0;
            for (int k = what == 0 ? 0 : n - 1; k < n; k++) {
                best = meanSum(n, k, x).compareTo(meanSum(n, best, x)) < 0 ? k : best;
            }
            return best;
        }

        int name(int which, int v) {
            if (out(which, 0, 1) || out(v, 0, which == 0 ? 10 : 9)) {
                return BAD;
            }
            List<Integer> names = which == 0 ? served : stood;
            if (v < 10 && names.contains(v)) {
                return NO;
            }
            if (names.size() == 9) {
                return FULL;
            }
            names.add(v);
            return names.size();
        }

        int noNames() {
            int were = served.size() + stood.size();
            served.clear();
            stood.clear();
            return were;
        }

        int fits(int what) {
            if (out(what, 0, 1)) {
                return BAD;
            }
            if (stood.isEmpty() || served.size() > stood.size()) {
                return NO;
            }
            List<Integer> sets = new ArrayList<>();
            for (int set = 0; set < 1 << stood.size(); set++) {
                List<Integer> line = new ArrayList<>(stood);
                boolean fit = true;
                for (int t = 0; t < stood.size(); t++) {
                    if ((set >> t & 1) == 1) {
                        Collections.reverse(line);
                    }
                    int first = line.remove(0);
                    fit &= t >= served.size() || served.get(t) == 10 || served.get(t) == first;
                }
                if (fit) {
                    sets.add(set);
                }
            }
            return what == 0 ? sets.size() : sets.isEmpty() ? NONE : sets.get(0);
        }

        int drawn(int z, int what) {
            if (out(z, 0, 9999) || out(what, 0, 2)) {
                return BAD;
            }
            List<Integer> children = new ArrayList<>();
            for (int i = 0; i < persons.size(); i++) {
                if (persons.get(i).child()) {
                    children.add(i);
                }
            }
            Outcome o = morning((t, row) -> {
                for (int k = 0; k < children.size(); k++) {
                    BigInteger x = BigInteger.valueOf(7919L * z + 6151L * k + 3571L * t + 1);
                    int rest = x.modPow(BigInteger.TWO, BigInteger.valueOf(65521)).intValue();
                    if (rest % 20 == 0 && row.contains(children.get(k))) {
                        return true;
                    }
                }
                return false;
            }, law);
            if (what == 0) {
                int n = 0;
                for (int i = 0; i < persons.size(); i++) {
                    n += o.how[i] == 0 ? 1 : 0;
                }
                return n;
            }
            return what == 1 ? o.turns : unfair(o);
        }

        int keep() {
            if (kept.size() == 2) {
                return FULL;
            }
            kept.add(new ArrayList<>(cries));
            return kept.size();
        }

        int back() {
            if (kept.isEmpty()) {
                return NO;
            }
            cries = kept.remove(kept.size() - 1);
            fixed = cries.size();
            return kept.size();
        }

        int count(int what) {
            if (out(what, 0, 7)) {
                return BAD;
            }
            return new int[] {persons.size(), cries.size(), cries.size() - fixed, kept.size(), served.size(),
                stood.size(), text.length(), law}[what];
        }
    }
}
