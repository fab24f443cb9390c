import java.util.Arrays;

/**
 * Servers with budgets that pass on what they do not use, on one processor.
 * The numbered promises of the document say what each call answers.
 */
public final class GreedyServers {
    private static final int NO_SUCH = -1;
    private static final int NO_ROOM = -2;
    private static final int NOT_AS_IT_MUST = -3;
    private static final int NONE = -4;
    private static final int NOTHING_HELD = -11;
    private static final int OF_ANOTHER_KIND = -12;
    private static final int NO_PLACE = -13;
    private static final int SIZE_BELOW_0 = -14;
    private static final int NO_FAILURE = -15;
    private static final int NOT_MADE_FOR = -16;
    private static final int NOT_REFUSED = 0;
    private static final long NO_SUCH_LONG = (1L << 63) + 101;

    private static final int BYTE_FAULT = -1000;
    private static final int STATEMENT_FAULT = -2000;

    private static final int SIXTY = 60;
    private static final int MOST_SERVERS = 6;
    private static final int MOST_JOBS = 4;
    private static final int MOST_WORK = 9;
    private static final int MOST_BUDGET = 30;
    private static final int MOST_FIGURE = 9;
    private static final int MOST_TOLD = 999;
    private static final int LAST_TICK = 9999;
    private static final int FAR = 99;
    private static final int NO_LOCK = 3;
    private static final int LEFT_ADDED = 10000;
    private static final int KINDS = 6;

    private static final int IDLE = 0;
    private static final int READY = 1;
    private static final int RESTING = 2;
    private static final int LINGERING = 3;

    private static final int NOTHING = 0;
    private static final int SORT = 1;
    private static final int ROW = 2;
    private static final int BYTES = 0;
    private static final int SHORTS = 1;
    private static final int INTS = 2;
    private static final int SHELVES = 8;
    private static final int MOST_ELEMENTS = 100;
    private static final int TRAYS = 4;
    private static final int MOST_LAID = 20;

    private final Hard[] kinds;
    private final Plant now;
    /** Where all that is only thought of goes on; made once, since every call wants it anew. */
    private final Plant mind;
    private final Plant kept;
    private boolean imageTaken;
    private final Shelf[] shelves;
    private final Tray[] trays;
    private final int[] gainsOfOne;
    private final int[] gainsOfOther;
    private final int[] lateOfOthers;
    private int seed;

    public GreedyServers() {
        Hard hard = new Hard(0, null);
        Greedy greedy = new Greedy(1, hard);
        Rester rester = new Rester(2, hard);
        kinds = new Hard[] {hard, greedy, rester,
            new Slack(3, greedy), new Mild(4, greedy), new Strict(5, rester)};
        now = new Plant(hard);
        mind = new Plant(hard);
        kept = new Plant(hard);
        shelves = new Shelf[SHELVES];
        for (int d = 0; d < SHELVES; d++) {
            shelves[d] = new Shelf(hard);
        }
        trays = new Tray[TRAYS];
        for (int i = 0; i < TRAYS; i++) {
            trays[i] = new Tray(hard);
        }
        gainsOfOne = new int[4];
        gainsOfOther = new int[4];
        lateOfOthers = new int[MOST_SERVERS];
    }

    // ---- servers, jobs, ticks

    public int text(int d) {
        int refusal = rowRefusal(d);
        if (refusal != NOT_REFUSED) {
            return refusal;
        }
        Shelf script = shelves[d];
        if (script.rowKind != BYTES) {
            return OF_ANOTHER_KIND;
        }
        int bad = Statements.firstBadByte(script);
        if (bad != NONE) {
            return BYTE_FAULT - bad;
        }
        mind.becomes(now);
        int statements = 0;
        int place = 0;
        for (int i = 0; i < script.size && place < script.size; i++) {
            if (!Statements.isDone(script, place, mind, kinds)) {
                return STATEMENT_FAULT - place;
            }
            statements++;
            place += Statements.lengthFrom(script.at(place));
        }
        now.becomes(mind);
        return statements;
    }

    public int server(int s, int what) {
        if (!now.has(s)) {
            return NO_SUCH;
        }
        Server one = now.servers[s];
        switch (what) {
            case 0: return one.kind.number;
            case 1: return one.figure;
            case 2: return one.budget;
            case 3: return one.period;
            case 4: return one.part;
            case 5: return one.left + LEFT_ADDED;
            case 6: return one.deadline;
            case 7: return one.state;
            case 8: return one.jobs;
            case 9: return one.late;
            case 10: return one.done;
            case 11: return one.kind.pays(one, now.loadOfAll());
            default: return NO_SUCH;
        }
    }

    public int job(int s, int i, int what) {
        if (!now.has(s) || !within(i, 0, now.servers[s].jobs - 1)) {
            return NO_SUCH;
        }
        Server one = now.servers[s];
        switch (what) {
            case 0: return one.works[i];
            case 1: return one.locks[i];
            case 2: return i == 0 && one.holding ? 1 : 0;
            case 3: return i == 0 ? one.firstDeadline : NONE;
            default: return NO_SUCH;
        }
    }

    public int comes(int d, int budget, int period) {
        if (!isBudget(budget, period)) {
            return NO_SUCH;
        }
        int refusal = sortRefusal(d);
        if (refusal != NOT_REFUSED) {
            return refusal;
        }
        if (now.number >= MOST_SERVERS) {
            return NO_ROOM;
        }
        now.addServer(shelves[d].kind, shelves[d].figure, budget, period);
        return now.number - 1;
    }

    public int sends(int s, int work, int lock) {
        int refusal = now.sendingRefusal(s, work, lock);
        if (refusal != NOT_REFUSED) {
            return refusal;
        }
        now.servers[s].takeJob(work, lock, now.tick);
        return now.servers[s].jobs;
    }

    public int drops(int s) {
        if (!now.has(s)) {
            return NO_SUCH;
        }
        int gone = now.servers[s].jobs;
        now.servers[s].dropJobs();
        return gone;
    }

    public int ticks(int n) {
        int refusal = now.tickingRefusal(n);
        if (refusal != NOT_REFUSED) {
            return refusal;
        }
        now.goOnFor(n);
        return now.lateOfAll();
    }

    // ---- ticks on

    public int then(int s, int n, int what) {
        if (!now.has(s) || !within(n, 0, FAR) || !within(what, 0, 5)) {
            return NO_SUCH;
        }
        mind.becomes(now);
        mind.goOnFor(n);
        Server one = mind.servers[s];
        switch (what) {
            case 0: return one.workOfAll();
            case 1: return one.left + LEFT_ADDED;
            case 2: return one.deadline;
            case 3: return one.state;
            case 4: return one.late;
            default: return one.done;
        }
    }

    public int runs(int n, int what) {
        if (!within(n, 1, FAR) || !within(what, 0, 1)) {
            return NO_SUCH;
        }
        mind.becomes(now);
        mind.goOnFor(n);
        return what == 0 ? mind.chosen : mind.runner;
    }

    public int quiet(int what) {
        if (!within(what, 0, 1)) {
            return NO_SUCH;
        }
        mind.becomes(now);
        for (int behind = 0; behind <= FAR; behind++) {
            if (what == 0 ? mind.jobsOfAll() == 0 : mind.isAllIdle()) {
                return behind;
            }
            mind.goOn(false);
        }
        return NONE;
    }

    public int misses(int s) {
        if (s == -1) {
            return firstLate();
        }
        if (!now.has(s)) {
            return NO_SUCH;
        }
        mind.becomes(now);
        return ticksTillLate(s, FAR);
    }

    private int firstLate() {
        mind.becomes(now);
        for (int behind = 1; behind <= FAR; behind++) {
            mind.goOn(false);
            for (int s = 0; s < now.number; s++) {
                if (lateMore(s) > 0) {
                    return s;
                }
            }
        }
        return NONE;
    }

    /** Lets the mind go on until one is LATE more than now, most TICKS at most: behind how many; NONE. */
    private int ticksTillLate(int s, int most) {
        for (int behind = 1; behind <= most; behind++) {
            mind.goOn(false);
            if (lateMore(s) > 0) {
                return behind;
            }
        }
        return NONE;
    }

    private int lateMore(int s) {
        return mind.servers[s].late - now.servers[s].late;
    }

    public int ran(int s, int n, int what) {
        if (!now.has(s) || !within(n, 0, FAR) || !within(what, 0, 1)) {
            return NO_SUCH;
        }
        mind.becomes(now);
        int times = 0;
        for (int i = 0; i < n; i++) {
            mind.goOn(false);
            if ((what == 0 ? mind.runner : mind.chosen) == s) {
                times++;
            }
        }
        return times;
    }

    // ---- admission, what would do

    public int admitted(int budget, int period) {
        if (!isBudget(budget, period)) {
            return NO_SUCH;
        }
        int together = partOf(budget, period);
        for (int s = 0; s < now.number; s++) {
            together += now.servers[s].part;
        }
        return together <= SIXTY ? 1 : 0;
    }

    public int demand(int n, int what) {
        if (!within(n, 1, FAR) || !within(what, 0, 1)) {
            return NO_SUCH;
        }
        if (what == 0) {
            return now.demandIn(n);
        }
        for (int i = 1; i <= n; i++) {
            if (now.demandIn(i) > i) {
                return 0;
            }
        }
        return 1;
    }

    public int needs(int s, int n) {
        if (!now.has(s) || !within(n, 0, SIXTY)) {
            return NO_SUCH;
        }
        int period = now.servers[s].period;
        for (int budget = 1; budget <= MOST_BUDGET && budget <= period; budget++) {
            mind.becomes(now);
            mind.servers[s].setBudget(budget, period);
            if (ticksTillLate(s, n) == NONE) {
                return budget;
            }
        }
        return NONE;
    }

    public int alone(int s, int n) {
        if (!now.has(s) || !within(n, 0, SIXTY)) {
            return NO_SUCH;
        }
        mind.becomes(now);
        for (int other = 0; other < mind.number; other++) {
            if (other != s) {
                mind.servers[other].dropJobs();
            }
        }
        mind.goOnFor(n);
        return lateMore(s);
    }

    public int kindBest(int s, int n, int what) {
        if (!now.has(s) || !within(n, 0, SIXTY) || !within(what, 0, 1)) {
            return NO_SUCH;
        }
        int best = NONE;
        int least = 0;
        for (int k = 0; k < KINDS; k++) {
            mind.becomes(now);
            mind.servers[s].kind = kinds[k];
            mind.goOnFor(n);
            int late = mind.lateOfAll();
            if (best == NONE || late < least) {
                best = k;
                least = late;
            }
        }
        return what == 0 ? best : least;
    }

    public int send(int n) {
        if (!within(n, 0, SIXTY)) {
            return NO_SUCH;
        }
        mind.becomes(now);
        mind.goOnFor(n);
        for (int s = 0; s < mind.number; s++) {
            lateOfOthers[s] = mind.lateOfAllBut(s);
        }
        int best = NONE;
        int least = 0;
        for (int s = 0; s < now.number; s++) {
            mind.becomes(now);
            mind.servers[s].dropJobs();
            mind.goOnFor(n);
            int late = mind.lateOfAllBut(s);
            if (late < lateOfOthers[s] && (best == NONE || late < least)) {
                best = s;
                least = late;
            }
        }
        return best;
    }

    public int load(int n) {
        if (!within(n, 0, FAR)) {
            return NO_SUCH;
        }
        mind.becomes(now);
        int least = mind.loadOfAll();
        for (int i = 1; i < n; i++) {
            mind.goOn(false);
            least = Math.min(least, mind.loadOfAll());
        }
        return least;
    }

    // ---- who ran, two, odds

    public int whoRan(int d, int s, int what) {
        if (!isShelf(d) || !now.has(s) || !within(what, 0, 1)) {
            return NO_SUCH;
        }
        int refusal = rowRefusal(d);
        if (refusal != NOT_REFUSED) {
            return refusal;
        }
        int found = 0;
        int tried = what == 0 ? KINDS : MOST_FIGURE + 1;
        for (int i = 0; i < tried; i++) {
            mind.becomes(now);
            if (what == 0) {
                mind.servers[s].kind = kinds[i];
            } else {
                mind.servers[s].figure = i;
            }
            if (goesOnAsTold(shelves[d])) {
                found |= 1 << i;
            }
        }
        return found;
    }

    private boolean goesOnAsTold(Shelf told) {
        for (int i = 0; i < told.size; i++) {
            mind.goOn(false);
            int runner = mind.runner == NONE ? MOST_SERVERS : mind.runner;
            if (!told.isSkipped(i) && told.at(i) != runner) {
                return false;
            }
        }
        return true;
    }

    public int two(int a, int b, int n) {
        if (!now.has(a) || !now.has(b) || a == b || !within(n, 1, SIXTY)) {
            return NO_SUCH;
        }
        if (now.servers[a].isFull() || now.servers[b].isFull()) {
            return NO_ROOM;
        }
        for (int pair = 0; pair < 4; pair++) {
            tryPair(a, b, n, pair);
        }
        for (int pair = 0; pair < 4; pair++) {
            if (gainsOfOne[pair] >= gainsOfOne[pair ^ 2]
                    && gainsOfOther[pair] >= gainsOfOther[pair ^ 1]) {
                return 10 * (pair >> 1) + (pair & 1);
            }
        }
        return NONE;
    }

    /** Bit 1 of the pair is the one's choice, bit 0 the other's. */
    private void tryPair(int a, int b, int n, int pair) {
        int sentByOne = pair >> 1;
        int sentByOther = pair & 1;
        mind.becomes(now);
        if (sentByOne == 1) {
            mind.servers[a].takeJob(5, NO_LOCK, mind.tick);
        }
        if (sentByOther == 1) {
            mind.servers[b].takeJob(5, NO_LOCK, mind.tick);
        }
        mind.goOnFor(n);
        gainsOfOne[pair] = 4 * sentByOne - lateMore(a);
        gainsOfOther[pair] = 4 * sentByOther - lateMore(b);
    }

    public long breaks(int s, int n, int t, int part) {
        if (!now.has(s) || !within(n, 0, 7) || !within(t, 2, 20) || !within(part, 0, 1)) {
            return NO_SUCH_LONG;
        }
        long late = 0;
        for (int broken = 0; broken < 1 << n; broken++) {
            if (isLateWithBreaks(s, n, broken)) {
                late += power(t - 1, n - Integer.bitCount(broken));
            }
        }
        return inLeastTerms(late, power(t, n), part);
    }

    /** Bit i of broken: no JOB runs in the TICK behind i others. */
    private boolean isLateWithBreaks(int s, int n, int broken) {
        mind.becomes(now);
        for (int i = 0; i < n; i++) {
            mind.goOn((broken >> i & 1) == 1);
            if (lateMore(s) > 0) {
                return true;
            }
        }
        return false;
    }

    public long share(int s, int part) {
        if (!now.has(s) || !within(part, 0, 1)) {
            return NO_SUCH_LONG;
        }
        Server one = now.servers[s];
        int load = now.loadOfAll();
        int own = one.state == IDLE ? 0 : one.part;
        return inLeastTerms(own, load == 0 ? 1 : load, part);
    }

    public int bits(int s) {
        if (!now.has(s)) {
            return NO_SUCH;
        }
        return (int) nearestBits(now.servers[s].budget, now.servers[s].period, 23, 127);
    }

    public long wide(int s) {
        if (!now.has(s)) {
            return NO_SUCH_LONG;
        }
        int left = now.servers[s].left;
        if (left == 0) {
            return 0;
        }
        long sign = left < 0 ? 1L << 63 : 0;
        return sign | nearestBits(Math.abs(left), SIXTY, 52, 1023);
    }

    // ---- told runs, days by lot

    public int forged(int d) {
        int refusal = rowRefusal(d);
        if (refusal != NOT_REFUSED) {
            return refusal;
        }
        for (int i = 0; i < shelves[d].size; i++) {
            if (!now.has(i) || now.servers[i].deadline != shelves[d].at(i)) {
                return i;
            }
        }
        return NONE;
    }

    public int judge(int d) {
        int refusal = rowRefusal(d);
        if (refusal != NOT_REFUSED) {
            return refusal;
        }
        mind.becomes(now);
        for (int i = 0; i < shelves[d].size; i++) {
            if (!shelves[d].isSkipped(i) && shelves[d].at(i) != mind.loadOfAll()) {
                return i;
            }
            mind.goOn(false);
        }
        return NONE;
    }

    public int days(int n, int z, int what) {
        if (!within(n, 1, 20) || !within(what, 0, 1)) {
            return NO_SUCH;
        }
        if (now.number == 0) {
            return 0;
        }
        seed = z;
        int more = 0;
        for (int day = 0; day < n; day++) {
            mind.becomes(now);
            liveOneDay();
            more += what == 0 ? mind.lateOfAll() - now.lateOfAll() : mind.doneOfAll() - now.doneOfAll();
        }
        return more;
    }

    private void liveOneDay() {
        for (int i = 0; i < 6; i++) {
            int work = 1 + draw(9);
            int lock = draw(4);
            int s = draw(mind.number);
            if (mind.sendingRefusal(s, work, lock) == NOT_REFUSED) {
                mind.servers[s].takeJob(work, lock, mind.tick);
            }
            mind.goOnFor(5);
        }
    }

    private int draw(int below) {
        seed = seed * 1103515245 + 12345;
        return below < 1 ? 0 : ((seed & 0x7fffffff) >> 16) % below;
    }

    // ---- the image, what is told

    public int image() {
        kept.becomes(now);
        imageTaken = true;
        return now.tick;
    }

    public int restore() {
        if (!imageTaken) {
            return NOT_AS_IT_MUST;
        }
        now.becomes(kept);
        return now.tick;
    }

    public int count(int what) {
        switch (what) {
            case 0: return now.number;
            case 1: return now.tick;
            case 2: return now.loadOfAll();
            case 3: return now.readyOnes();
            case 4: return now.jobsOfAll();
            case 5: return now.lateOfAll();
            case 6: return now.holderOf(0);
            case 7: return now.holderOf(1);
            case 8: return now.holderOf(2);
            default: return NO_SUCH;
        }
    }

    // ---- trays

    public int tray(int tray, int kind, int n) {
        if (!isTray(tray) || !within(kind, 0, KINDS - 1) || n > MOST_LAID) {
            return NO_SUCH;
        }
        if (n < 0) {
            return SIZE_BELOW_0;
        }
        trays[tray].becomeEmpty(kinds[kind], n);
        return 1;
    }

    public int lays(int tray, int i, int d) {
        if (!isTray(tray) || !isShelf(d)) {
            return NO_SUCH;
        }
        Shelf shelf = shelves[d];
        if (shelf.content == ROW) {
            return OF_ANOTHER_KIND;
        }
        Tray laidOn = trays[tray];
        if (!laidOn.made) {
            return NOTHING_HELD;
        }
        if (!laidOn.hasPlace(i)) {
            return NO_PLACE;
        }
        if (shelf.content == NOTHING) {
            laidOn.places[i] = NONE;
            return 1;
        }
        if (!shelf.kind.isOrIsUnder(laidOn.madeFor)) {
            return NOT_MADE_FOR;
        }
        laidOn.places[i] = shelf.kind.number;
        return 1;
    }

    public int laid(int tray, int i) {
        if (!isTray(tray)) {
            return NO_SUCH;
        }
        Tray asked = trays[tray];
        if (!asked.made) {
            return NOTHING_HELD;
        }
        if (!asked.hasPlace(i)) {
            return NO_PLACE;
        }
        return asked.places[i] == NONE ? NOTHING_HELD : asked.places[i];
    }

    public int like(int tray, int other) {
        if (!isTray(tray) || !isTray(other)) {
            return NO_SUCH;
        }
        if (!trays[other].made) {
            return NOTHING_HELD;
        }
        trays[tray].becomeLike(trays[other]);
        return trays[tray].size;
    }

    // ---- shelves

    public int keep(int d, int what, int k, int figure) {
        if (!isShelf(d) || !within(what, 0, 1)) {
            return NO_SUCH;
        }
        if (what == 0) {
            shelves[d].content = NOTHING;
            return 0;
        }
        if (!within(k, 0, KINDS - 1) || !within(figure, 0, MOST_FIGURE)) {
            return NO_SUCH;
        }
        shelves[d].holdSort(kinds[k], figure);
        return 0;
    }

    public int row(int d, int sort, int n) {
        if (!isShelf(d) || !within(sort, BYTES, INTS) || n > MOST_ELEMENTS) {
            return NO_SUCH;
        }
        if (n < 0) {
            return SIZE_BELOW_0;
        }
        shelves[d].holdRow(sort, n);
        return 0;
    }

    public int put(int d, int i, int v) {
        int refusal = rowRefusal(d);
        if (refusal != NOT_REFUSED) {
            return refusal;
        }
        if (!shelves[d].hasPlaces(i, 1)) {
            return NO_PLACE;
        }
        shelves[d].setElement(i, v);
        return 0;
    }

    public long element(int d, int i) throws IllegalArgumentException, IllegalStateException {
        if (!isShelf(d)) {
            throw new IllegalArgumentException("no such SHELF");
        }
        if (shelves[d].content != ROW || !shelves[d].hasPlaces(i, 1)) {
            throw new IllegalStateException("no ROW, or no such place");
        }
        return shelves[d].at(i);
    }

    public int copy(int d, int i, int e, int j, int n) {
        if (!isShelf(d) || !isShelf(e)) {
            return NO_SUCH;
        }
        Shelf from = shelves[d];
        Shelf to = shelves[e];
        if (from.content == NOTHING || to.content == NOTHING) {
            return NOTHING_HELD;
        }
        if (from.content != ROW || to.content != ROW || from.rowKind != to.rowKind) {
            return OF_ANOTHER_KIND;
        }
        if (!from.hasPlaces(i, n) || !to.hasPlaces(j, n)) {
            return NO_PLACE;
        }
        System.arraycopy(from.elements, i, to.elements, j, n);
        return n;
    }

    public int cost(int d) {
        int refusal = sortRefusal(d);
        if (refusal != NOT_REFUSED) {
            return refusal;
        }
        return shelves[d].kind.worth(shelves[d].figure);
    }

    public int toss(int d) {
        int refusal = sortRefusal(d);
        if (refusal != NOT_REFUSED) {
            return refusal;
        }
        Hard kind = shelves[d].kind;
        int figure = shelves[d].figure;
        try {
            kind.fail(figure);
            return NO_FAILURE;
        } catch (IllegalStateException ofHard) {
            return figure;
        } catch (IllegalArgumentException ofGreedy) {
            return 100 + figure;
        } catch (UnsupportedOperationException ofStrict) {
            return 200 + kind.worth(figure);
        }
    }

    // ---- what the calls ask first

    private static boolean within(int value, int least, int most) {
        return value >= least && value <= most;
    }

    private static boolean isBudget(int budget, int period) {
        return within(budget, 1, MOST_BUDGET) && within(period, budget, SIXTY) && SIXTY % period == 0;
    }

    /** The SHARE in sixtieths; it comes out even, since every PERIOD divides 60. */
    private static int partOf(int budget, int period) {
        return period < 1 ? 0 : SIXTY * budget / period;
    }

    private static boolean isShelf(int d) {
        return within(d, 0, SHELVES - 1);
    }

    private static boolean isTray(int tray) {
        return within(tray, 0, TRAYS - 1);
    }

    private int rowRefusal(int d) {
        return contentRefusal(d, ROW);
    }

    private int sortRefusal(int d) {
        return contentRefusal(d, SORT);
    }

    private int contentRefusal(int d, int wanted) {
        if (!isShelf(d)) {
            return NO_SUCH;
        }
        if (shelves[d].content == NOTHING) {
            return NOTHING_HELD;
        }
        return shelves[d].content == wanted ? NOT_REFUSED : OF_ANOTHER_KIND;
    }

    // ---- fractions and floats

    private static long power(int base, int times) {
        long product = 1;
        for (int i = 0; i < times; i++) {
            product *= base;
        }
        return product;
    }

    private static long inLeastTerms(long above, long below, int part) {
        long divisor = below;
        long rest = above;
        for (int i = 0; i < 100 && rest != 0; i++) {
            long next = divisor % rest;
            divisor = rest;
            rest = next;
        }
        long asked = part == 0 ? above : below;
        return divisor == 0 ? asked : asked / divisor;
    }

    /**
     * The bits of the float or double nearest to above by below (both above 0), by division
     * with pen and paper: the library's own way to a float's bits is not allowed here.
     */
    private static long nearestBits(long above, long below, int places, int bias) {
        int exponent = bias;
        for (int i = 0; i < 32 && above >= 2 * below; i++) {
            below *= 2;
            exponent++;
        }
        for (int i = 0; i < 32 && above < below; i++) {
            above *= 2;
            exponent--;
        }
        long quotient = 0;
        long rest = above;
        for (int i = 0; i <= places; i++) {
            quotient *= 2;
            if (rest >= below) {
                quotient++;
                rest -= below;
            }
            rest *= 2;
        }
        if (rest > below || rest == below && quotient % 2 == 1) {
            quotient++;
        }
        // The quotient's leading 1 is not written; if rounding carried, it raises the exponent.
        return ((long) (exponent - 1) << places) + quotient;
    }

    // ---- the kinds

    private static class Hard {
        final int number;
        final Hard under;

        Hard(int number, Hard under) {
            this.number = number;
            this.under = under;
        }

        boolean isOrIsUnder(Hard other) {
            for (Hard kind = this; kind != null; kind = kind.under) {
                if (kind.number == other.number) {
                    return true;
                }
            }
            return false;
        }

        int pays(Server one, int load) {
            return SIXTY;
        }

        void refill(Server one) {
            for (int again = 0; again < 1000 && one.left <= 0; again++) {
                one.left += SIXTY * one.budget;
                one.deadline += one.period;
            }
        }

        /** Of a HARD one, too: in mind a RESTING one may be of any KIND. */
        void wake(Server one) {
            one.state = READY;
            one.left = SIXTY * one.budget;
            one.deadline += one.period;
        }

        int worth(int figure) {
            return figure;
        }

        /** Throws the FAILURE, if there is one: each sort of it is another exception. */
        void fail(int figure) {
            if (figure != 0) {
                throw new IllegalStateException();
            }
        }
    }

    private static class Greedy extends Hard {
        Greedy(int number, Hard under) {
            super(number, under);
        }

        int pays(Server one, int load) {
            return Math.min(Math.max(load, one.part), SIXTY);
        }

        int worth(int figure) {
            return 1;
        }

        void fail(int figure) {
            if (figure != 0) {
                throw new IllegalArgumentException();
            }
        }
    }

    private static class Rester extends Hard {
        Rester(int number, Hard under) {
            super(number, under);
        }

        void refill(Server one) {
            one.state = RESTING;
        }

        int worth(int figure) {
            return 2 * figure;
        }

        void fail(int figure) {
            // RESTERS have no FAILURE.
        }
    }

    private static final class Slack extends Greedy {
        Slack(int number, Hard under) {
            super(number, under);
        }

        int pays(Server one, int load) {
            return Math.max(super.pays(one, load) - one.figure, one.part);
        }

        int worth(int figure) {
            return super.worth(figure) + 3;
        }
    }

    private static final class Mild extends Greedy {
        Mild(int number, Hard under) {
            super(number, under);
        }

        int pays(Server one, int load) {
            return (SIXTY + super.pays(one, load)) / 2;
        }

        int worth(int figure) {
            return 0;
        }
    }

    private static final class Strict extends Rester {
        Strict(int number, Hard under) {
            super(number, under);
        }

        void wake(Server one) {
            int owed = Math.min(one.left, 0);
            super.wake(one);
            one.left += owed;
        }

        int worth(int figure) {
            return super.worth(figure) + 1;
        }

        void fail(int figure) {
            if (figure != 0) {
                throw new UnsupportedOperationException();
            }
        }
    }

    // ---- what the processor has

    private static final class Server {
        Hard kind;
        int figure;
        int budget;
        int period;
        int part;
        int left;
        int deadline;
        int state;
        int late;
        int done;
        int jobs;
        final int[] works = new int[MOST_JOBS];
        final int[] locks = new int[MOST_JOBS];
        /** Of its JOB now alone: those that wait can neither HOLD a LOCK nor have a FIRST DEADLINE. */
        boolean holding;
        int firstDeadline;

        Server(Hard kind) {
            this.kind = kind;
        }

        void beginAnew(Hard newKind, int newFigure) {
            kind = newKind;
            figure = newFigure;
            left = 0;
            deadline = 0;
            late = 0;
            done = 0;
            dropJobs();
        }

        void setBudget(int newBudget, int newPeriod) {
            budget = newBudget;
            period = newPeriod;
            part = partOf(newBudget, newPeriod);
        }

        void becomes(Server other) {
            kind = other.kind;
            figure = other.figure;
            budget = other.budget;
            period = other.period;
            part = other.part;
            left = other.left;
            deadline = other.deadline;
            state = other.state;
            late = other.late;
            done = other.done;
            jobs = other.jobs;
            for (int i = 0; i < other.jobs; i++) {
                works[i] = other.works[i];
                locks[i] = other.locks[i];
            }
            holding = other.holding;
            firstDeadline = other.firstDeadline;
        }

        boolean isFull() {
            return jobs >= MOST_JOBS;
        }

        int workOfAll() {
            int together = 0;
            for (int i = 0; i < jobs; i++) {
                together += works[i];
            }
            return together;
        }

        boolean holdsLock(int lock) {
            return jobs > 0 && holding && locks[0] == lock;
        }

        /** Whether LEFT is at least what the time till the DEADLINE would earn it. */
        boolean hasEarned(int tick) {
            return left * period >= SIXTY * budget * (deadline - tick);
        }

        void takeJob(int work, int lock, int tick) {
            if (isFull()) {
                return;
            }
            works[jobs] = work;
            locks[jobs] = lock;
            jobs++;
            if (state != IDLE && state != LINGERING) {
                return;
            }
            if (state == IDLE || left <= 0 || hasEarned(tick)) {
                left = SIXTY * budget;
                deadline = tick + period;
            }
            state = READY;
            firstDeadline = deadline;
        }

        void dropJobs() {
            jobs = 0;
            holding = false;
            state = IDLE;
        }

        void runJobNow(int tick) {
            if (jobs == 0) {
                return;
            }
            works[0]--;
            holding = locks[0] != NO_LOCK;
            if (tick >= firstDeadline && late < MOST_TOLD) {
                late++;
            }
            if (works[0] <= 0) {
                endJobNow();
            }
        }

        private void endJobNow() {
            if (done < MOST_TOLD) {
                done++;
            }
            jobs--;
            for (int i = 0; i < jobs; i++) {
                works[i] = works[i + 1];
                locks[i] = locks[i + 1];
            }
            holding = false;
            firstDeadline = deadline;
            if (jobs == 0) {
                state = LINGERING;
            }
        }
    }

    /** TICK and SERVERS: as they are, as THE IMAGE has them, or as they would be. */
    private static final class Plant {
        final Server[] servers = new Server[MOST_SERVERS];
        int number;
        int tick;
        /** Of the last TICK; NONE: nobody. */
        int chosen = NONE;
        int runner = NONE;

        Plant(Hard first) {
            for (int s = 0; s < MOST_SERVERS; s++) {
                servers[s] = new Server(first);
            }
        }

        void becomes(Plant other) {
            number = other.number;
            tick = other.tick;
            for (int s = 0; s < other.number; s++) {
                servers[s].becomes(other.servers[s]);
            }
        }

        boolean has(int s) {
            return within(s, 0, number - 1);
        }

        void addServer(Hard kind, int figure, int budget, int period) {
            if (number >= MOST_SERVERS) {
                return;
            }
            servers[number].beginAnew(kind, figure);
            servers[number].setBudget(budget, period);
            number++;
        }

        int sendingRefusal(int s, int work, int lock) {
            if (!has(s) || !within(work, 1, MOST_WORK) || !within(lock, 0, NO_LOCK)) {
                return NO_SUCH;
            }
            return servers[s].isFull() ? NO_ROOM : NOT_REFUSED;
        }

        int tickingRefusal(int n) {
            if (!within(n, 1, SIXTY)) {
                return NO_SUCH;
            }
            return tick + n > LAST_TICK ? NOT_AS_IT_MUST : NOT_REFUSED;
        }

        void goOnFor(int n) {
            for (int i = 0; i < n; i++) {
                goOn(false);
            }
        }

        void goOn(boolean broken) {
            beginTick();
            chosen = broken ? NONE : earliest();
            runner = NONE;
            if (chosen != NONE) {
                runChosen();
            }
            tick++;
        }

        private void beginTick() {
            for (int s = 0; s < number; s++) {
                Server one = servers[s];
                if (one.state == RESTING && one.deadline <= tick) {
                    one.kind.wake(one);
                } else if (one.state == LINGERING && one.hasEarned(tick)) {
                    one.state = IDLE;
                }
            }
        }

        private int earliest() {
            int first = NONE;
            for (int s = 0; s < number; s++) {
                if (servers[s].state == READY
                        && (first == NONE || servers[s].deadline < servers[first].deadline)) {
                    first = s;
                }
            }
            return first;
        }

        private void runChosen() {
            Server payer = servers[chosen];
            int holder = holderOf(payer.locks[0]);
            runner = holder == NONE ? chosen : holder;
            payer.left -= payer.kind.pays(payer, loadOfAll());
            servers[runner].runJobNow(tick);
            if (payer.state == READY && payer.left <= 0) {
                payer.kind.refill(payer);
            }
        }

        int holderOf(int lock) {
            if (lock == NO_LOCK) {
                return NONE;
            }
            for (int s = 0; s < number; s++) {
                if (servers[s].holdsLock(lock)) {
                    return s;
                }
            }
            return NONE;
        }

        int loadOfAll() {
            int together = 0;
            for (int s = 0; s < number; s++) {
                if (servers[s].state != IDLE) {
                    together += servers[s].part;
                }
            }
            return together;
        }

        int lateOfAll() {
            return lateOfAllBut(NONE);
        }

        int lateOfAllBut(int but) {
            int together = 0;
            for (int s = 0; s < number; s++) {
                if (s != but) {
                    together += servers[s].late;
                }
            }
            return together;
        }

        int doneOfAll() {
            int together = 0;
            for (int s = 0; s < number; s++) {
                together += servers[s].done;
            }
            return together;
        }

        int jobsOfAll() {
            int together = 0;
            for (int s = 0; s < number; s++) {
                together += servers[s].jobs;
            }
            return together;
        }

        int readyOnes() {
            int found = 0;
            for (int s = 0; s < number; s++) {
                if (servers[s].state == READY) {
                    found |= 1 << s;
                }
            }
            return found;
        }

        boolean isAllIdle() {
            for (int s = 0; s < number; s++) {
                if (servers[s].state != IDLE) {
                    return false;
                }
            }
            return true;
        }

        int demandIn(int n) {
            int together = 0;
            for (int s = 0; s < number; s++) {
                int period = servers[s].period;
                together += period < 1 ? 0 : servers[s].budget * (n / period);
            }
            return together;
        }
    }

    // ---- the text

    private static final class Statements {
        /** -1: with this letter no STATEMENT begins. */
        static int digitsBehind(int letter) {
            switch (letter) {
                case 's': return 6;
                case 'j': return 3;
                case 't': return 2;
                default: return -1;
            }
        }

        /** With the letter and the ";"; above 0 for any letter. */
        static int lengthFrom(int letter) {
            return digitsBehind(letter) + 2;
        }

        static int firstBadByte(Shelf script) {
            int digitsDue = -1;
            for (int place = 0; place < script.size; place++) {
                int sign = script.at(place);
                if (digitsDue == -1) {
                    digitsDue = digitsBehind(sign);
                    if (digitsDue == -1) {
                        return place;
                    }
                } else if (digitsDue > 0) {
                    if (!within(sign, '0', '9')) {
                        return place;
                    }
                    digitsDue--;
                } else if (sign == ';') {
                    digitsDue = -1;
                } else {
                    return place;
                }
            }
            return script.size == 0 || digitsDue != -1 ? script.size : NONE;
        }

        static int digit(Shelf script, int place) {
            return script.at(place) - '0';
        }

        static int twoDigits(Shelf script, int place) {
            return 10 * digit(script, place) + digit(script, place + 1);
        }

        /** Does the STATEMENT at this place to the plant, if it can be done. */
        static boolean isDone(Shelf script, int place, Plant plant, Hard[] kinds) {
            switch (script.at(place)) {
                case 's': return isServerAdded(script, place, plant, kinds);
                case 'j': return isJobSent(script, place, plant);
                default: break;
            }
            int n = twoDigits(script, place + 1);
            if (plant.tickingRefusal(n) != NOT_REFUSED) {
                return false;
            }
            plant.goOnFor(n);
            return true;
        }

        private static boolean isServerAdded(Shelf script, int place, Plant plant, Hard[] kinds) {
            int kind = digit(script, place + 1);
            int figure = digit(script, place + 2);
            int budget = twoDigits(script, place + 3);
            int period = twoDigits(script, place + 5);
            if (!within(kind, 0, kinds.length - 1) || !isBudget(budget, period)
                    || plant.number >= MOST_SERVERS) {
                return false;
            }
            plant.addServer(kinds[kind], figure, budget, period);
            return true;
        }

        private static boolean isJobSent(Shelf script, int place, Plant plant) {
            int s = digit(script, place + 1);
            int work = digit(script, place + 2);
            int lock = digit(script, place + 3);
            if (plant.sendingRefusal(s, work, lock) != NOT_REFUSED) {
                return false;
            }
            plant.servers[s].takeJob(work, lock, plant.tick);
            return true;
        }
    }

    // ---- shelves and trays

    private static final class Shelf {
        int content = NOTHING;
        Hard kind;
        int figure;
        int rowKind;
        int size;
        final int[] elements = new int[MOST_ELEMENTS];

        Shelf(Hard kind) {
            this.kind = kind;
        }

        void holdSort(Hard newKind, int newFigure) {
            content = SORT;
            kind = newKind;
            figure = newFigure;
        }

        void holdRow(int newKind, int newSize) {
            content = ROW;
            rowKind = newKind;
            size = newSize;
            Arrays.fill(elements, 0);
        }

        /** Written so that no sum of two numbers can wrap around. */
        boolean hasPlaces(int from, int n) {
            return within(from, 0, size) && within(n, 0, size - from);
        }

        int at(int i) {
            return within(i, 0, MOST_ELEMENTS - 1) ? elements[i] : 0;
        }

        void setElement(int i, int v) {
            elements[i] = rowKind == BYTES ? (byte) v : rowKind == SHORTS ? (short) v : v;
        }

        boolean isSkipped(int i) {
            return at(i) == (rowKind == BYTES ? -128 : rowKind == SHORTS ? -32768 : 1 << 31);
        }
    }

    private static final class Tray {
        boolean made;
        Hard madeFor;
        int size;
        /** The KIND's number at each place; NONE: it is empty. */
        final int[] places = new int[MOST_LAID];

        Tray(Hard madeFor) {
            this.madeFor = madeFor;
        }

        void becomeEmpty(Hard newKind, int newSize) {
            made = true;
            madeFor = newKind;
            size = newSize;
            Arrays.fill(places, NONE);
        }

        void becomeLike(Tray other) {
            made = other.made;
            madeFor = other.madeFor;
            size = other.size;
            System.arraycopy(other.places, 0, places, 0, MOST_LAID);
        }

        boolean hasPlace(int i) {
            return within(i, 0, size - 1);
        }
    }
}
