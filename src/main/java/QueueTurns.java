/** The queue before a bakery that turns when a child cries; ../shared/DOC.md tells what each call answers. */
public final class QueueTurns {
    public static final int BAD = -1, NO = -2, FULL = -3, NONE = -4;

    private static final int MOST_BYTES = 300;
    private static final int MOST_PERSONS = 10;
    private static final int MOST_CRIES = 8;
    private static final int MOST_KEPT = 2;
    private static final int MOST_NAMES = 9;
    private static final int MOST_IN_ODDS = 9;
    private static final int MOST_EXTRA = 2;
    private static final int MINUTES = 200;
    private static final int CRY_MINUTES = 100;
    private static final int GAME_MINUTES = 12;
    private static final int MOST_DRAWS = 9999;

    private static final int PLAIN = 0, MIDDLE = 1, BEHIND = 2, NEVER = 3;
    private static final int SERVED = 0, AWAY = 1, WITHOUT = 2, WAITING = 3;
    private static final int UNSEEN = 10;

    private final Text text = new Text();
    private final Study study = new Study();
    private final Morning morning = study.morning;
    private final Odds odds = new Odds();
    private final Names names = new Names();
    private final CryList[] kept = {new CryList(), new CryList()};
    private int keptMany = 0;
    private Plan laid = new Plan();
    private Plan spare = new Plan();
    private int fixedCries;

    public QueueTurns() {
        laid.addPerson(0, 0, 50);
        laid.addPerson(0, 0, 50);
        laid.addPerson(0, 1, 50);
        laid.addCry(2, 1);
        fixedCries = laid.cries.size;
    }

    // ---- mornings

    public int write(int n, long v) {
        if (n < 1 || n > 8) {
            return BAD;
        }
        if (n > MOST_BYTES - text.length) {
            return FULL;
        }
        for (int shift = 8 * (n - 1); shift >= 0; shift -= 8) {
            text.append((byte) (v >>> shift));
        }
        return text.length;
    }

    public int wipe() {
        int was = text.length;
        text.length = 0;
        return was;
    }

    public int fault() {
        return text.readInto(spare);
    }

    public int lay() {
        if (text.readInto(spare) != NONE || spare.persons == 0) {
            return NO;
        }
        Plan old = laid;
        laid = spare;
        spare = old;
        fixedCries = laid.cries.size;
        keptMany = 0;
        names.forget();
        return laid.persons;
    }

    public int person(int i, int what) {
        if (!isPerson(i)) {
            return BAD;
        }
        switch (what) {
            case 0:
                return laid.comes[i];
            case 1:
                return laid.child[i];
            case 2:
                return laid.waits[i];
            case 3:
                runAsTold();
                return morning.how[i];
            case 4:
                runAsTold();
                return morning.when[i];
            default:
                return BAD;
        }
    }

    public int place(int i, int t) {
        if (!isPerson(i) || !isMinute(t)) {
            return BAD;
        }
        morning.asTold(laid);
        morning.runTo(t);
        return morning.placeOf(i);
    }

    public int row(int t) {
        if (!isMinute(t)) {
            return BAD;
        }
        morning.asTold(laid);
        morning.runTo(t);
        return morning.size;
    }

    public int all(int what) {
        if (what < 0 || what > 5) {
            return BAD;
        }
        runAsTold();
        if (what == 4) {
            return morning.turns;
        }
        return what == 5 ? morning.unfair() : morning.manyOf(what);
    }

    // ---- cries

    public int cry(int c, int what) {
        if (c < 0 || c >= laid.cries.size) {
            return BAD;
        }
        switch (what) {
            case 0:
                return laid.cries.who[c];
            case 1:
                return laid.cries.minute[c];
            case 2:
                return study.gainedBy(laid, c);
            default:
                return BAD;
        }
    }

    public int suspect() {
        return study.mostGained(laid);
    }

    public int tell(int i, int m) {
        if (!laid.hasChild(i) || m < 0 || m >= CRY_MINUTES) {
            return BAD;
        }
        if (!laid.addCry(i, m)) {
            return FULL;
        }
        return laid.cries.size;
    }

    public int takeBack() {
        if (laid.cries.size <= fixedCries) {
            return NO;
        }
        laid.cries.dropLast();
        return laid.cries.size - fixedCries;
    }

    public int hush(int i, int m) {
        if (!isPerson(i) || !isMinute(m)) {
            return BAD;
        }
        return study.fewestHushed(laid, i, m);
    }

    public int again(int i, int what) {
        if (!isPerson(i) || what < 0 || what > 1) {
            return BAD;
        }
        study.cryOnceMore(laid, i);
        if (study.worth <= 0) {
            return NONE;
        }
        return what == 0 ? study.bestMinute : study.worth;
    }

    public int game(int i, int j, int what) {
        if (!isPerson(i) || !isPerson(j) || i == j || what < 0 || what > 2) {
            return BAD;
        }
        study.play(laid, i, j);
        if (what == 0) {
            return study.rests;
        }
        if (study.rests == 0) {
            return NONE;
        }
        return what == 1 ? study.firstOfI : study.firstOfJ;
    }

    public int laws(int l) {
        if (l < -1 || l > NEVER) {
            return BAD;
        }
        return l == -1 ? study.bestLaw(laid) : study.unfairBy(laid, l);
    }

    // ---- odds

    public long mean(int n, int k, int x, int part) {
        if (!areOdds(n, x) || k < 0 || k >= n || part < 0 || part > 1) {
            return BAD;
        }
        return odds.lowest(odds.meanAbove(n, k, x), part);
    }

    public long by(int n, int k, int x, int m, int part) {
        if (!areOdds(n, x) || k < 0 || k >= n || m < 0 || m >= MOST_IN_ODDS || part < 0 || part > 1) {
            return BAD;
        }
        return odds.lowest(odds.chanceAbove(n, k, x, m), part);
    }

    public int best(int n, int x, int what) {
        if (!areOdds(n, x) || what < 0 || what > 1) {
            return BAD;
        }
        return what == 0 ? odds.bestPlace(n, x) : odds.bestEnd(n, x);
    }

    // ---- names

    public int name(int which, int v) {
        if (which < 0 || which > 1 || v < 0 || v > UNSEEN || (which == 1 && v == UNSEEN)) {
            return BAD;
        }
        if (v != UNSEEN && names.isIn(which, v)) {
            return NO;
        }
        if (names.manyIn(which) >= MOST_NAMES) {
            return FULL;
        }
        names.add(which, v);
        return names.manyIn(which);
    }

    public int noNames() {
        int were = names.servedMany + names.stoodMany;
        names.forget();
        return were;
    }

    public int fits(int what) {
        if (what < 0 || what > 1) {
            return BAD;
        }
        if (names.stoodMany == 0 || names.servedMany > names.stoodMany) {
            return NO;
        }
        names.findTurns();
        return what == 0 ? names.fitting : names.lowestFitting;
    }

    public int drawn(int z, int what) {
        if (z < 0 || z > MOST_DRAWS || what < 0 || what > 2) {
            return BAD;
        }
        morning.asTold(laid);
        morning.draw = z;
        morning.runTo(MINUTES - 1);
        if (what == 0) {
            return morning.manyOf(SERVED);
        }
        return what == 1 ? morning.turns : morning.unfair();
    }

    public int keep() {
        if (keptMany >= MOST_KEPT) {
            return FULL;
        }
        kept[keptMany].copyFrom(laid.cries);
        keptMany++;
        return keptMany;
    }

    public int back() {
        if (keptMany <= 0) {
            return NO;
        }
        keptMany--;
        laid.cries.copyFrom(kept[keptMany]);
        fixedCries = laid.cries.size;
        return keptMany;
    }

    public int count(int what) {
        switch (what) {
            case 0:
                return laid.persons;
            case 1:
                return laid.cries.size;
            case 2:
                return laid.cries.size - fixedCries;
            case 3:
                return keptMany;
            case 4:
                return names.servedMany;
            case 5:
                return names.stoodMany;
            case 6:
                return text.length;
            case 7:
                return laid.law;
            default:
                return BAD;
        }
    }

    private boolean isPerson(int i) {
        return laid.isTold(i);
    }

    private static boolean isMinute(int t) {
        return t >= 0 && t < MINUTES;
    }

    private static boolean areOdds(int n, int x) {
        return n >= 1 && n <= MOST_IN_ODDS && x >= 0 && x <= 10;
    }

    private void runAsTold() {
        morning.asTold(laid);
        morning.runTo(MINUTES - 1);
    }

    /** THE TEXT, and how it is read. */
    private static final class Text {
        final byte[] bytes = new byte[MOST_BYTES];
        final int[] numbers = new int[3];
        int length = 0;
        int at = 0;

        void append(byte b) {
            if (length < bytes.length) {
                bytes[length] = b;
                length++;
            }
        }

        /** Fills the plan; answers FAULT or NONE. */
        int readInto(Plan plan) {
            plan.clear();
            int start = 0;
            for (int items = 0; items < MOST_BYTES && start < length; items++) {
                at = start;
                if (!readItem(plan)) {
                    return start;
                }
                start = at;
            }
            return NONE;
        }

        boolean readItem(Plan plan) {
            int letter = nextByte();
            int many = numbersOf(letter);
            return many > 0 && readNumbers(many) && plan.take(letter, numbers[0], numbers[1], numbers[2]);
        }

        static int numbersOf(int letter) {
            switch (letter) {
                case 'p':
                    return 3;
                case 'c':
                case 's':
                    return 2;
                case 'q':
                case 'b':
                case 'l':
                    return 1;
                default:
                    return 0;
            }
        }

        boolean readNumbers(int many) {
            for (int k = 0; k < many && k < numbers.length; k++) {
                numbers[k] = readNumber();
                if (numbers[k] < 0 || nextByte() != (k == many - 1 ? ';' : ',')) {
                    return false;
                }
            }
            return true;
        }

        /** One or two figures; less than 0 if there is none. */
        int readNumber() {
            int number = figureAt();
            if (number < 0) {
                return number;
            }
            at++;
            int second = figureAt();
            if (second < 0) {
                return number;
            }
            at++;
            return 10 * number + second;
        }

        int figureAt() {
            if (at < 0 || at >= length || bytes[at] < '0' || bytes[at] > '9') {
                return -1;
            }
            return bytes[at] - '0';
        }

        /** Less than 0 behind the last one. */
        int nextByte() {
            if (at < 0 || at >= length) {
                return -1;
            }
            int b = bytes[at] & 255;
            at++;
            return b;
        }
    }

    /** Cries one behind the other, with the bits of those of each minute. */
    private static final class CryList {
        final int[] who = new int[MOST_CRIES];
        final int[] minute = new int[MOST_CRIES];
        // a morning looks here each minute, so it needn't go through all cries
        final int[] bitsAt = new int[CRY_MINUTES];
        int size = 0;

        boolean add(int i, int m) {
            if (size >= who.length || m < 0 || m >= bitsAt.length) {
                return false;
            }
            who[size] = i;
            minute[size] = m;
            bitsAt[m] |= 1 << size;
            size++;
            return true;
        }

        void dropLast() {
            if (size > 0) {
                size--;
                bitsAt[minute[size]] &= ~(1 << size);
            }
        }

        void clear() {
            for (int c = size; c > 0; c--) {
                dropLast();
            }
        }

        void copyFrom(CryList other) {
            clear();
            for (int c = 0; c < other.size; c++) {
                add(other.who[c], other.minute[c]);
            }
        }
    }

    /** What a TEXT tells. */
    private static final class Plan {
        final int[] comes = new int[MOST_PERSONS];
        final int[] child = new int[MOST_PERSONS];
        final int[] waits = new int[MOST_PERSONS];
        // the PERSONS as they come: by minute, then by number
        final int[] order = new int[MOST_PERSONS];
        final CryList cries = new CryList();
        int persons;
        int quiet;
        int atOnce;
        int every;
        int loaves;
        int law;

        Plan() {
            clear();
        }

        void clear() {
            persons = 0;
            cries.clear();
            quiet = 0;
            atOnce = 1;
            every = 2;
            loaves = 99;
            law = PLAIN;
        }

        boolean isTold(int i) {
            return i >= 0 && i < persons;
        }

        boolean hasChild(int i) {
            return isTold(i) && child[i] == 1;
        }

        /** Takes an ITEM; no, if it is not so. */
        boolean take(int letter, int a, int b, int c) {
            switch (letter) {
                case 'p':
                    return addPerson(a, b, c);
                case 'c':
                    return hasChild(a) && addCry(a, b);
                case 's':
                    return setService(a, b);
                case 'q':
                    quiet = a;
                    return a <= 30;
                case 'b':
                    loaves = a;
                    return true;
                case 'l':
                    law = a;
                    return a <= NEVER;
                default:
                    return false;
            }
        }

        boolean addPerson(int a, int k, int b) {
            if (persons >= MOST_PERSONS || k > 1 || b < 1) {
                return false;
            }
            comes[persons] = a;
            child[persons] = k;
            waits[persons] = b;
            int at = persons;
            for (; at > 0 && comes[order[at - 1]] > a; at--) {
                order[at] = order[at - 1];
            }
            order[at] = persons;
            persons++;
            return true;
        }

        boolean addCry(int i, int m) {
            return cries.add(i, m);
        }

        boolean setService(int n, int d) {
            atOnce = n;
            every = d;
            return n >= 1 && n <= 9 && d >= 1 && d <= 9;
        }
    }

    /** One MORNING, as a plan tells it or with some of it otherwise. */
    private static final class Morning {
        final int[] how = new int[MOST_PERSONS];
        final int[] when = new int[MOST_PERSONS];
        final boolean[] here = new boolean[MOST_PERSONS];
        final int[] inRow = new int[MOST_PERSONS];
        final int[] extraWho = new int[MOST_EXTRA];
        final int[] extraMinute = new int[MOST_EXTRA];
        Plan plan = new Plan();
        int law;
        int hushed;
        int draw;
        int size;
        int came;
        int ended;
        int loaves;
        int turns;
        int lastTurn;

        void asTold(Plan told) {
            plan = told;
            law = told.law;
            hushed = 0;
            draw = -1;
            for (int e = 0; e < MOST_EXTRA; e++) {
                extraWho[e] = 0;
                extraMinute[e] = -1;
            }
        }

        void addExtra(int e, int i, int m) {
            if (e >= 0 && e < MOST_EXTRA && plan.isTold(i)) {
                extraWho[e] = i;
                extraMinute[e] = m;
            }
        }

        /** From the first minute till behind the last; nothing changes any more once all have ended. */
        void runTo(int last) {
            begin();
            for (int t = 0; t <= last && t < MINUTES && ended < plan.persons; t++) {
                letGoAway(t);
                if (draw >= 0 ? isDrawnCry(t) : isToldCry(t) || isExtraCry(t)) {
                    turn(t);
                }
                letCome(t);
                if (plan.every > 0 && t % plan.every == 0) {
                    serve(t);
                }
                if (loaves == 0) {
                    sendHome(t);
                }
            }
        }

        void begin() {
            for (int i = 0; i < MOST_PERSONS; i++) {
                how[i] = WAITING;
                when[i] = MINUTES;
                here[i] = false;
            }
            size = 0;
            came = 0;
            ended = 0;
            loaves = plan.loaves;
            turns = 0;
            lastTurn = -1;
        }

        void letGoAway(int t) {
            int stay = 0;
            for (int k = 0; k < size; k++) {
                int i = inRow[k];
                if (t - plan.comes[i] >= plan.waits[i]) {
                    end(i, AWAY, t);
                } else {
                    inRow[stay] = i;
                    stay++;
                }
            }
            size = stay;
        }

        boolean isToldCry(int t) {
            if (t < 0 || t >= CRY_MINUTES) {
                return false;
            }
            int bits = plan.cries.bitsAt[t] & ~hushed;
            if (bits == 0) {
                return false;
            }
            for (int c = 0; c < plan.cries.size; c++) {
                if ((bits >> c & 1) == 1 && here[plan.cries.who[c]]) {
                    return true;
                }
            }
            return false;
        }

        boolean isExtraCry(int t) {
            for (int e = 0; e < MOST_EXTRA; e++) {
                if (extraMinute[e] == t && here[extraWho[e]]) {
                    return true;
                }
            }
            return false;
        }

        boolean isDrawnCry(int t) {
            int k = 0;
            for (int i = 0; i < plan.persons; i++) {
                if (plan.child[i] == 1) {
                    if (here[i] && isDrawn(k, t)) {
                        return true;
                    }
                    k++;
                }
            }
            return false;
        }

        boolean isDrawn(int k, int t) {
            long x = 7919L * draw + 6151L * k + 3571L * t + 1;
            return x * x % 65521 % 20 == 0;
        }

        /** By BEHIND it is a turn too if there are none behind the first three. */
        void turn(int t) {
            if (law == NEVER || (lastTurn >= 0 && t - lastTurn <= plan.quiet)) {
                return;
            }
            int b = size - 1;
            for (int a = law == BEHIND ? 3 : 0; a < b; a++) {
                int i = inRow[a];
                inRow[a] = inRow[b];
                inRow[b] = i;
                b--;
            }
            turns++;
            lastTurn = t;
        }

        void letCome(int t) {
            for (; came < plan.persons && plan.comes[plan.order[came]] == t; came++) {
                join(plan.order[came]);
            }
        }

        void join(int i) {
            if (size >= MOST_PERSONS) {
                return;
            }
            int at = law == MIDDLE ? size / 2 : size;
            for (int k = size; k > at; k--) {
                inRow[k] = inRow[k - 1];
            }
            inRow[at] = i;
            here[i] = true;
            size++;
        }

        void serve(int t) {
            int many = Math.min(size, Math.min(plan.atOnce, loaves));
            for (int k = 0; k < many; k++) {
                end(inRow[k], SERVED, t);
            }
            for (int k = many; k < size; k++) {
                inRow[k - many] = inRow[k];
            }
            loaves -= many;
            size -= many;
        }

        void sendHome(int t) {
            for (int k = 0; k < size; k++) {
                end(inRow[k], WITHOUT, t);
            }
            size = 0;
        }

        void end(int i, int as, int t) {
            how[i] = as;
            when[i] = t;
            here[i] = false;
            ended++;
        }

        int placeOf(int i) {
            for (int k = 0; k < size; k++) {
                if (inRow[k] == i) {
                    return k;
                }
            }
            return NONE;
        }

        int manyOf(int as) {
            int many = 0;
            for (int i = 0; i < plan.persons; i++) {
                if (how[i] == as) {
                    many++;
                }
            }
            return many;
        }

        int timeOf(int i) {
            return how[i] == SERVED ? when[i] : MINUTES;
        }

        int unfair() {
            int pairs = 0;
            for (int b = 0; b < plan.persons; b++) {
                int later = plan.order[b];
                for (int a = 0; a < b; a++) {
                    int earlier = plan.order[a];
                    if (how[later] == SERVED && how[earlier] == SERVED && when[later] < when[earlier]) {
                        pairs++;
                    }
                }
            }
            return pairs;
        }
    }

    /** What would be, if a morning were otherwise. */
    private static final class Study {
        final Morning morning = new Morning();
        final int[] timesOfI = new int[GAME_MINUTES * GAME_MINUTES];
        final int[] timesOfJ = new int[GAME_MINUTES * GAME_MINUTES];
        int bestMinute;
        int worth;
        int rests;
        int firstOfI;
        int firstOfJ;

        int timeWithout(Plan plan, int i, int hushed) {
            morning.asTold(plan);
            morning.hushed = hushed;
            morning.runTo(MINUTES - 1);
            return morning.timeOf(i);
        }

        int gainedBy(Plan plan, int c) {
            int i = plan.cries.who[c];
            return timeWithout(plan, i, 1 << c) - timeWithout(plan, i, 0) + MINUTES;
        }

        int mostGained(Plan plan) {
            int first = NONE;
            int most = -1;
            for (int c = 0; c < plan.cries.size; c++) {
                int gained = gainedBy(plan, c);
                if (gained > most) {
                    most = gained;
                    first = c;
                }
            }
            return first;
        }

        int fewestHushed(Plan plan, int i, int m) {
            int sets = 1 << plan.cries.size;
            for (int few = 0; few <= plan.cries.size; few++) {
                for (int set = 0; set < sets; set++) {
                    if (Integer.bitCount(set) == few && isServedBy(plan, i, m, set)) {
                        return set;
                    }
                }
            }
            return NONE;
        }

        boolean isServedBy(Plan plan, int i, int m, int hushed) {
            morning.asTold(plan);
            morning.hushed = hushed;
            morning.runTo(m);
            return morning.how[i] == SERVED;
        }

        /** Leaves the minute and what it is worth, 0 if it is not earlier by any. */
        void cryOnceMore(Plan plan, int i) {
            int without = timeWithout(plan, i, 0);
            int earliest = without;
            bestMinute = 0;
            for (int x = 0; x < CRY_MINUTES; x++) {
                morning.asTold(plan);
                morning.addExtra(0, i, x);
                morning.runTo(MINUTES - 1);
                if (morning.timeOf(i) < earliest) {
                    earliest = morning.timeOf(i);
                    bestMinute = x;
                }
            }
            worth = without - earliest;
        }

        /** Leaves how many RESTS there are and the minutes of the first. */
        void play(Plan plan, int i, int j) {
            for (int a = 0; a < GAME_MINUTES; a++) {
                for (int b = 0; b < GAME_MINUTES; b++) {
                    morning.asTold(plan);
                    morning.addExtra(0, i, a);
                    morning.addExtra(1, j, b);
                    morning.runTo(MINUTES - 1);
                    timesOfI[GAME_MINUTES * a + b] = morning.timeOf(i);
                    timesOfJ[GAME_MINUTES * a + b] = morning.timeOf(j);
                }
            }
            rests = 0;
            for (int a = 0; a < GAME_MINUTES; a++) {
                for (int b = 0; b < GAME_MINUTES; b++) {
                    if (isRest(a, b)) {
                        if (rests == 0) {
                            firstOfI = a;
                            firstOfJ = b;
                        }
                        rests++;
                    }
                }
            }
        }

        boolean isRest(int a, int b) {
            int ofI = timesOfI[GAME_MINUTES * a + b];
            int ofJ = timesOfJ[GAME_MINUTES * a + b];
            for (int o = 0; o < GAME_MINUTES; o++) {
                if (timesOfI[GAME_MINUTES * o + b] < ofI || timesOfJ[GAME_MINUTES * a + o] < ofJ) {
                    return false;
                }
            }
            return true;
        }

        int unfairBy(Plan plan, int law) {
            morning.asTold(plan);
            morning.law = law;
            morning.runTo(MINUTES - 1);
            return morning.unfair();
        }

        int bestLaw(Plan plan) {
            int lowest = PLAIN;
            int least = unfairBy(plan, PLAIN);
            for (int law = MIDDLE; law <= NEVER; law++) {
                int unfair = unfairBy(plan, law);
                if (unfair < least) {
                    least = unfair;
                    lowest = law;
                }
            }
            return lowest;
        }
    }

    /** TURN BY ODDS. All is told in parts of 10 to the 9th, since a row of 9 has 9 minutes of tenths. */
    private static final class Odds {
        private static final long WHOLE = 1000000000L;
        final long[] weight = new long[MOST_IN_ODDS];
        final long[] turned = new long[MOST_IN_ODDS];
        final long[] servedAt = new long[MOST_IN_ODDS];

        /** Leaves the chance of each minute; a weight is how many of 10 to the t-th ways lead to a place. */
        void findChances(int n, int k, int x) {
            for (int p = 0; p < MOST_IN_ODDS; p++) {
                weight[p] = p == k ? 1 : 0;
                servedAt[p] = 0;
            }
            long part = WHOLE;
            for (int t = 0; t < n && t < MOST_IN_ODDS; t++) {
                int size = n - t;
                for (int p = 0; p < size; p++) {
                    turned[p] = (10 - x) * weight[p] + x * weight[size - 1 - p];
                }
                part /= 10;
                servedAt[t] = turned[0] * part;
                for (int p = 1; p < size; p++) {
                    weight[p - 1] = turned[p];
                }
            }
        }

        long meanAbove(int n, int k, int x) {
            findChances(n, k, x);
            long sum = 0;
            for (int t = 0; t < MOST_IN_ODDS; t++) {
                sum += t * servedAt[t];
            }
            return sum;
        }

        long chanceAbove(int n, int k, int x, int m) {
            findChances(n, k, x);
            long sum = 0;
            for (int t = 0; t <= m && t < MOST_IN_ODDS; t++) {
                sum += servedAt[t];
            }
            return sum;
        }

        long lowest(long above, int part) {
            long shared = WHOLE;
            long rest = above;
            // a hundred is far above the steps that two numbers below 10 to the 10th need
            for (int step = 0; step < 100 && rest != 0; step++) {
                long next = shared % rest;
                shared = rest;
                rest = next;
            }
            if (shared == 0) {
                return part == 0 ? above : WHOLE;
            }
            return part == 0 ? above / shared : WHOLE / shared;
        }

        int bestPlace(int n, int x) {
            int lowestPlace = 0;
            long least = meanAbove(n, 0, x);
            for (int k = 1; k < n; k++) {
                long above = meanAbove(n, k, x);
                if (above < least) {
                    least = above;
                    lowestPlace = k;
                }
            }
            return lowestPlace;
        }

        int bestEnd(int n, int x) {
            return meanAbove(n, n - 1, x) < meanAbove(n, 0, x) ? n - 1 : 0;
        }
    }

    /** The names SEEN, and the turns by which it was so. */
    private static final class Names {
        final int[] served = new int[MOST_NAMES];
        final int[] stood = new int[MOST_NAMES];
        int servedMany = 0;
        int stoodMany = 0;
        int fitting;
        int lowestFitting;

        int manyIn(int which) {
            return which == 0 ? servedMany : stoodMany;
        }

        boolean isIn(int which, int v) {
            for (int k = 0; k < manyIn(which); k++) {
                if ((which == 0 ? served[k] : stood[k]) == v) {
                    return true;
                }
            }
            return false;
        }

        void add(int which, int v) {
            if (which == 0 && servedMany < MOST_NAMES) {
                served[servedMany] = v;
                servedMany++;
            }
            if (which == 1 && stoodMany < MOST_NAMES) {
                stood[stoodMany] = v;
                stoodMany++;
            }
        }

        void forget() {
            servedMany = 0;
            stoodMany = 0;
        }

        /** Leaves how many sets of turns fit, and the lowest or NONE. */
        void findTurns() {
            fitting = 0;
            lowestFitting = NONE;
            int sets = 1 << stoodMany;
            for (int set = 0; set < sets; set++) {
                if (isFitting(set)) {
                    if (fitting == 0) {
                        lowestFitting = set;
                    }
                    fitting++;
                }
            }
        }

        /** Nobody needs to be moved: the row is what stands between two ends, and a turn tells which is in front. */
        boolean isFitting(int set) {
            int low = 0;
            int high = stoodMany - 1;
            boolean isTurned = false;
            for (int t = 0; t < servedMany && low <= high; t++) {
                if ((set >> t & 1) == 1) {
                    isTurned = !isTurned;
                }
                int first = isTurned ? stood[high] : stood[low];
                if (served[t] != UNSEEN && served[t] != first) {
                    return false;
                }
                if (isTurned) {
                    high--;
                } else {
                    low++;
                }
            }
            return true;
        }
    }
}
