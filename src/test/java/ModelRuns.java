import java.math.BigInteger;
import java.util.ArrayList;
import java.util.List;
import java.util.Random;

/**
 * Random runs of calls, each answer compared with a second reading of the document: a slow model
 * with the Java library, which shares no line with the class.
 */
public final class ModelRuns {
    private static final int RUNS = 1500;
    private static final int CALLS = 400;
    private static int wrong = 0;

    // ---- the model

    static final class Job {
        int work;
        int lock;
        boolean ranOnce;
        int first;

        Job(int work, int lock) {
            this.work = work;
            this.lock = lock;
        }

        Job twin() {
            Job j = new Job(work, lock);
            j.ranOnce = ranOnce;
            j.first = first;
            return j;
        }
    }

    static final class Box {
        int kind, figure, budget, period, left, deadline, late, done;
        String state = "IDLE";
        List<Job> jobs = new ArrayList<>();

        Box twin() {
            Box b = new Box();
            b.kind = kind;
            b.figure = figure;
            b.budget = budget;
            b.period = period;
            b.left = left;
            b.deadline = deadline;
            b.late = late;
            b.done = done;
            b.state = state;
            for (Job j : jobs) {
                b.jobs.add(j.twin());
            }
            return b;
        }

        int share() {
            return 60 * budget / period;
        }

        boolean greedy() {
            return kind == 1 || kind == 3 || kind == 4;
        }

        boolean rester() {
            return kind == 2 || kind == 5;
        }

        int stateNumber() {
            return List.of("IDLE", "READY", "RESTING", "LINGERING").indexOf(state);
        }

        void drop() {
            jobs.clear();
            state = "IDLE";
        }
    }

    static final class World {
        int tick;
        List<Box> boxes = new ArrayList<>();
        int lastChosen = -4;
        int lastRunner = -4;

        World twin() {
            World w = new World();
            w.tick = tick;
            for (Box b : boxes) {
                w.boxes.add(b.twin());
            }
            return w;
        }

        int load() {
            return boxes.stream().filter(b -> !b.state.equals("IDLE")).mapToInt(Box::share).sum();
        }

        int late() {
            return boxes.stream().mapToInt(b -> b.late).sum();
        }

        int done() {
            return boxes.stream().mapToInt(b -> b.done).sum();
        }

        int jobs() {
            return boxes.stream().mapToInt(b -> b.jobs.size()).sum();
        }

        int pays(Box b) {
            int greedy = load();
            if (greedy < b.share()) {
                greedy = b.share();
            }
            if (greedy > 60) {
                greedy = 60;
            }
            switch (b.kind) {
                case 1: return greedy;
                case 3: return greedy - b.figure < b.share() ? b.share() : greedy - b.figure;
                case 4: return (60 + greedy) / 2;
                default: return 60;
            }
        }

        void come(int s, int work, int lock) {
            Box b = boxes.get(s);
            Job j = new Job(work, lock);
            b.jobs.add(j);
            boolean idle = b.state.equals("IDLE");
            if (idle || b.state.equals("LINGERING")) {
                b.state = "READY";
                if (idle || b.left <= 0 || b.left * b.period >= 60 * b.budget * (b.deadline - tick)) {
                    b.left = 60 * b.budget;
                    b.deadline = tick + b.period;
                }
                j.first = b.deadline;
            }
        }

        int holder(int lock) {
            for (int s = 0; s < boxes.size(); s++) {
                List<Job> js = boxes.get(s).jobs;
                if (lock < 3 && !js.isEmpty() && js.get(0).ranOnce && js.get(0).lock == lock) {
                    return s;
                }
            }
            return -4;
        }

        void step(boolean broken) {
            int t = tick;
            for (Box b : boxes) {
                if (b.state.equals("RESTING") && b.deadline <= t) {
                    b.state = "READY";
                    b.left = 60 * b.budget + (b.kind == 5 ? b.left : 0);
                    b.deadline += b.period;
                }
            }
            for (Box b : boxes) {
                if (b.state.equals("LINGERING") && 60 * b.budget * (b.deadline - t) <= b.left * b.period) {
                    b.state = "IDLE";
                }
            }
            lastChosen = -4;
            lastRunner = -4;
            for (int s = boxes.size() - 1; s >= 0 && !broken; s--) {
                Box b = boxes.get(s);
                if (b.state.equals("READY")
                        && (lastChosen < 0 || b.deadline <= boxes.get(lastChosen).deadline)) {
                    lastChosen = s;
                }
            }
            if (lastChosen >= 0) {
                run(t);
            }
            tick = t + 1;
        }

        void run(int t) {
            Box payer = boxes.get(lastChosen);
            int holder = holder(payer.jobs.get(0).lock);
            lastRunner = holder >= 0 ? holder : lastChosen;
            Box owner = boxes.get(lastRunner);
            Job j = owner.jobs.get(0);
            j.work--;
            j.ranOnce = true;
            payer.left -= pays(payer);
            if (!(t < j.first)) {
                owner.late = Math.min(999, owner.late + 1);
            }
            if (j.work == 0) {
                owner.done = Math.min(999, owner.done + 1);
                owner.jobs.remove(0);
                if (owner.jobs.isEmpty()) {
                    owner.state = "LINGERING";
                } else {
                    owner.jobs.get(0).first = owner.deadline;
                }
            }
            if (payer.state.equals("READY") && payer.left <= 0) {
                if (payer.rester()) {
                    payer.state = "RESTING";
                } else {
                    while (payer.left <= 0) {
                        payer.left += 60 * payer.budget;
                        payer.deadline += payer.period;
                    }
                }
            }
        }

        World on(int n) {
            World w = twin();
            for (int i = 0; i < n; i++) {
                w.step(false);
            }
            return w;
        }
    }

    static final class Thing {
        boolean isRow;
        int kind, figure, rowKind;
        int[] row;
    }

    static final class TrayModel {
        int kind;
        Integer[] places;
    }

    static final class Model {
        World w = new World();
        World image;
        Thing[] shelves = new Thing[8];
        TrayModel[] trays = new TrayModel[4];

        static boolean in(int v, int a, int b) {
            return a <= v && v <= b;
        }

        boolean srv(int s) {
            return s >= 0 && s < w.boxes.size();
        }

        static boolean budgetOk(int budget, int period) {
            return budget >= 1 && budget <= 30 && period >= budget
                && List.of(1, 2, 3, 4, 5, 6, 10, 12, 15, 20, 30, 60).contains(period);
        }

        static Box box(int kind, int figure, int budget, int period) {
            Box b = new Box();
            b.kind = kind;
            b.figure = figure;
            b.budget = budget;
            b.period = period;
            return b;
        }

        int text(int d) {
            if (!in(d, 0, 7)) {
                return -1;
            }
            if (shelves[d] == null) {
                return -11;
            }
            if (!shelves[d].isRow || shelves[d].rowKind != 0) {
                return -12;
            }
            StringBuilder sb = new StringBuilder();
            for (int v : shelves[d].row) {
                sb.append(v >= 0 ? (char) v : '?');
            }
            String all = sb.toString();
            // The longest piece from the start with which some TEXT begins, by a pattern of every such piece.
            String whole = "(s\\d{6};|j\\d{3};|t\\d{2};)";
            String begun = "(s\\d{0,6}|j\\d{0,3}|t\\d{0,2})?";
            int good = 0;
            while (good < all.length() && all.substring(0, good + 1).matches(whole + "*" + begun)) {
                good++;
            }
            if (good < all.length() || !all.matches(whole + "+")) {
                return -1000 - good;
            }
            World trial = w.twin();
            int place = 0;
            String[] parts = all.split(";");
            for (String p : parts) {
                if (!say(trial, p)) {
                    return -2000 - place;
                }
                place += p.length() + 1;
            }
            w = trial;
            return parts.length;
        }

        static boolean say(World t, String p) {
            if (p.charAt(0) == 's') {
                int kind = p.charAt(1) - '0';
                int budget = Integer.parseInt(p.substring(3, 5));
                int period = Integer.parseInt(p.substring(5, 7));
                if (kind > 5 || !budgetOk(budget, period) || t.boxes.size() == 6) {
                    return false;
                }
                t.boxes.add(box(kind, p.charAt(2) - '0', budget, period));
                return true;
            }
            if (p.charAt(0) == 'j') {
                int s = p.charAt(1) - '0';
                int work = p.charAt(2) - '0';
                int lock = p.charAt(3) - '0';
                if (s >= t.boxes.size() || work == 0 || lock > 3 || t.boxes.get(s).jobs.size() == 4) {
                    return false;
                }
                t.come(s, work, lock);
                return true;
            }
            int n = Integer.parseInt(p.substring(1));
            if (n < 1 || n > 60 || t.tick + n > 9999) {
                return false;
            }
            for (int i = 0; i < n; i++) {
                t.step(false);
            }
            return true;
        }

        int server(int s, int what) {
            if (!srv(s) || !in(what, 0, 11)) {
                return -1;
            }
            Box b = w.boxes.get(s);
            return new int[] {b.kind, b.figure, b.budget, b.period, b.share(), b.left + 10000, b.deadline,
                b.stateNumber(), b.jobs.size(), b.late, b.done, w.pays(b)}[what];
        }

        int job(int s, int i, int what) {
            if (!srv(s) || i < 0 || i >= w.boxes.get(s).jobs.size() || !in(what, 0, 3)) {
                return -1;
            }
            Job j = w.boxes.get(s).jobs.get(i);
            return new int[] {j.work, j.lock, j.ranOnce && j.lock < 3 ? 1 : 0, i > 0 ? -4 : j.first}[what];
        }

        int comes(int d, int budget, int period) {
            if (!budgetOk(budget, period) || !in(d, 0, 7)) {
                return -1;
            }
            if (shelves[d] == null) {
                return -11;
            }
            if (shelves[d].isRow) {
                return -12;
            }
            if (w.boxes.size() == 6) {
                return -2;
            }
            w.boxes.add(box(shelves[d].kind, shelves[d].figure, budget, period));
            return w.boxes.size() - 1;
        }

        int sends(int s, int work, int lock) {
            if (!srv(s) || !in(work, 1, 9) || !in(lock, 0, 3)) {
                return -1;
            }
            if (w.boxes.get(s).jobs.size() == 4) {
                return -2;
            }
            w.come(s, work, lock);
            return w.boxes.get(s).jobs.size();
        }

        int drops(int s) {
            if (!srv(s)) {
                return -1;
            }
            int n = w.boxes.get(s).jobs.size();
            w.boxes.get(s).drop();
            return n;
        }

        int ticks(int n) {
            if (!in(n, 1, 60)) {
                return -1;
            }
            if (w.tick + n > 9999) {
                return -3;
            }
            w = w.on(n);
            return w.late();
        }

        int then(int s, int n, int what) {
            if (!srv(s) || !in(n, 0, 99) || !in(what, 0, 5)) {
                return -1;
            }
            Box b = w.on(n).boxes.get(s);
            int work = b.jobs.stream().mapToInt(j -> j.work).sum();
            return new int[] {work, b.left + 10000, b.deadline, b.stateNumber(), b.late, b.done}[what];
        }

        int runs(int n, int what) {
            if (!in(n, 1, 99) || !in(what, 0, 1)) {
                return -1;
            }
            World v = w.on(n);
            return what == 0 ? v.lastChosen : v.lastRunner;
        }

        int quiet(int what) {
            if (!in(what, 0, 1)) {
                return -1;
            }
            for (int k = 0; k < 100; k++) {
                World v = w.on(k);
                if (what == 0 ? v.jobs() == 0 : v.boxes.stream().allMatch(b -> b.state.equals("IDLE"))) {
                    return k;
                }
            }
            return -4;
        }

        int misses(int s) {
            if (s < -1 || s >= w.boxes.size()) {
                return -1;
            }
            World v = w.twin();
            for (int k = 1; k < 100; k++) {
                v.step(false);
                for (int o = 0; o < w.boxes.size(); o++) {
                    if ((s == o || s == -1) && v.boxes.get(o).late > w.boxes.get(o).late) {
                        return s == -1 ? o : k;
                    }
                }
            }
            return -4;
        }

        int ran(int s, int n, int what) {
            if (!srv(s) || !in(n, 0, 99) || !in(what, 0, 1)) {
                return -1;
            }
            int c = 0;
            for (int k = 1; k <= n; k++) {
                c += runs(k, 1 - what) == s ? 1 : 0;
            }
            return c;
        }

        int admitted(int budget, int period) {
            if (!budgetOk(budget, period)) {
                return -1;
            }
            int sum = w.boxes.stream().mapToInt(Box::share).sum();
            return sum + 60 * budget / period > 60 ? 0 : 1;
        }

        int demand(int n, int what) {
            if (!in(n, 1, 99) || !in(what, 0, 1)) {
                return -1;
            }
            if (what == 0) {
                return w.boxes.stream().mapToInt(b -> b.budget * (n / b.period)).sum();
            }
            for (int m = 1; m <= n; m++) {
                if (demand(m, 0) > m) {
                    return 0;
                }
            }
            return 1;
        }

        int needs(int s, int n) {
            if (!srv(s) || !in(n, 0, 60)) {
                return -1;
            }
            for (int b = 1; b <= Math.min(30, w.boxes.get(s).period); b++) {
                World v = w.twin();
                v.boxes.get(s).budget = b;
                if (v.on(n).boxes.get(s).late == w.boxes.get(s).late) {
                    return b;
                }
            }
            return -4;
        }

        int alone(int s, int n) {
            if (!srv(s) || !in(n, 0, 60)) {
                return -1;
            }
            World v = w.twin();
            for (Box b : v.boxes) {
                if (b != v.boxes.get(s)) {
                    b.drop();
                }
            }
            return v.on(n).boxes.get(s).late - w.boxes.get(s).late;
        }

        int kindBest(int s, int n, int what) {
            if (!srv(s) || !in(n, 0, 60) || !in(what, 0, 1)) {
                return -1;
            }
            int best = Integer.MAX_VALUE;
            int kind = -1;
            for (int k = 5; k >= 0; k--) {
                World v = w.twin();
                v.boxes.get(s).kind = k;
                int late = v.on(n).late();
                if (late <= best) {
                    best = late;
                    kind = k;
                }
            }
            return what == 0 ? kind : best;
        }

        int send(int n) {
            if (!in(n, 0, 60)) {
                return -1;
            }
            int best = Integer.MAX_VALUE;
            int who = -4;
            for (int s = w.boxes.size() - 1; s >= 0; s--) {
                World v = w.twin();
                v.boxes.get(s).drop();
                World with = w.on(n);
                v = v.on(n);
                int without = v.late() - v.boxes.get(s).late;
                if (without < with.late() - with.boxes.get(s).late && without <= best) {
                    best = without;
                    who = s;
                }
            }
            return who;
        }

        int load(int n) {
            if (!in(n, 0, 99)) {
                return -1;
            }
            int least = w.load();
            for (int k = 0; k < n; k++) {
                least = Math.min(least, w.on(k).load());
            }
            return least;
        }

        static boolean skip(Thing t, int v) {
            return v == new int[] {Byte.MIN_VALUE, Short.MIN_VALUE, Integer.MIN_VALUE}[t.rowKind];
        }

        int rowCheck(int d) {
            return !in(d, 0, 7) ? -1 : shelves[d] == null ? -11 : !shelves[d].isRow ? -12 : 0;
        }

        int whoRan(int d, int s, int what) {
            if (!in(d, 0, 7) || !srv(s) || !in(what, 0, 1)) {
                return -1;
            }
            if (rowCheck(d) != 0) {
                return rowCheck(d);
            }
            int bits = 0;
            for (int k = 0; k < (what == 0 ? 6 : 10); k++) {
                World v = w.twin();
                if (what == 0) {
                    v.boxes.get(s).kind = k;
                } else {
                    v.boxes.get(s).figure = k;
                }
                boolean so = true;
                for (int told : shelves[d].row) {
                    v.step(false);
                    so &= skip(shelves[d], told) || told == (v.lastRunner < 0 ? 6 : v.lastRunner);
                }
                bits |= so ? 1 << k : 0;
            }
            return bits;
        }

        int two(int a, int b, int n) {
            if (!srv(a) || !srv(b) || a == b || !in(n, 1, 60)) {
                return -1;
            }
            if (w.boxes.get(a).jobs.size() == 4 || w.boxes.get(b).jobs.size() == 4) {
                return -2;
            }
            int[][][] pay = new int[2][2][2];
            for (int x = 0; x < 2; x++) {
                for (int y = 0; y < 2; y++) {
                    World v = w.twin();
                    if (x == 1) {
                        v.come(a, 5, 3);
                    }
                    if (y == 1) {
                        v.come(b, 5, 3);
                    }
                    v = v.on(n);
                    pay[x][y][0] = 4 * x - (v.boxes.get(a).late - w.boxes.get(a).late);
                    pay[x][y][1] = 4 * y - (v.boxes.get(b).late - w.boxes.get(b).late);
                }
            }
            for (int x = 0; x < 2; x++) {
                for (int y = 0; y < 2; y++) {
                    if (pay[1 - x][y][0] <= pay[x][y][0] && pay[x][1 - y][1] <= pay[x][y][1]) {
                        return 10 * x + y;
                    }
                }
            }
            return -4;
        }

        BigInteger[] chance(World v, int s, int n, int t) {
            if (n == 0) {
                boolean late = v.boxes.get(s).late > w.boxes.get(s).late;
                return new BigInteger[] {late ? BigInteger.ONE : BigInteger.ZERO, BigInteger.ONE};
            }
            World broken = v.twin();
            broken.step(true);
            World whole = v.twin();
            whole.step(false);
            BigInteger[] p = chance(broken, s, n - 1, t);
            BigInteger[] q = chance(whole, s, n - 1, t);
            BigInteger above = p[0].multiply(q[1]).add(q[0].multiply(p[1]).multiply(BigInteger.valueOf(t - 1)));
            BigInteger below = p[1].multiply(q[1]).multiply(BigInteger.valueOf(t));
            BigInteger g = above.gcd(below);
            return new BigInteger[] {above.divide(g), below.divide(g)};
        }

        long breaks(int s, int n, int t, int part) {
            if (!srv(s) || !in(n, 0, 7) || !in(t, 2, 20) || !in(part, 0, 1)) {
                return Long.MIN_VALUE + 101;
            }
            return chance(w.twin(), s, n, t)[part].longValueExact();
        }

        long share(int s, int part) {
            if (!srv(s) || !in(part, 0, 1)) {
                return Long.MIN_VALUE + 101;
            }
            Box b = w.boxes.get(s);
            BigInteger own = BigInteger.valueOf(b.state.equals("IDLE") ? 0 : b.share());
            BigInteger all = BigInteger.valueOf(Math.max(1, w.load()));
            return (part == 0 ? own : all).divide(own.gcd(all)).longValueExact();
        }

        int bits(int s) {
            return !srv(s) ? -1 : Float.floatToIntBits((float) w.boxes.get(s).budget / w.boxes.get(s).period);
        }

        long wide(int s) {
            return !srv(s) ? Long.MIN_VALUE + 101 : Double.doubleToLongBits(w.boxes.get(s).left / 60.0);
        }

        int forged(int d) {
            if (rowCheck(d) != 0) {
                return rowCheck(d);
            }
            int[] told = shelves[d].row;
            for (int i = 0; i < told.length; i++) {
                if (!srv(i) || w.boxes.get(i).deadline != told[i]) {
                    return i;
                }
            }
            return -4;
        }

        int judge(int d) {
            if (rowCheck(d) != 0) {
                return rowCheck(d);
            }
            int[] told = shelves[d].row;
            for (int i = 0; i < told.length; i++) {
                if (!skip(shelves[d], told[i]) && w.on(i).load() != told[i]) {
                    return i;
                }
            }
            return -4;
        }

        int days(int n, int z, int what) {
            if (!in(n, 1, 20) || !in(what, 0, 1)) {
                return -1;
            }
            if (w.boxes.isEmpty()) {
                return 0;
            }
            int more = 0;
            int[] seed = {z};
            for (int day = 0; day < n; day++) {
                World v = w.twin();
                for (int i = 0; i < 6; i++) {
                    int work = 1 + lot(seed, 9);
                    int lock = lot(seed, 4);
                    int s = lot(seed, v.boxes.size());
                    if (v.boxes.get(s).jobs.size() < 4) {
                        v.come(s, work, lock);
                    }
                    v = v.on(5);
                }
                more += what == 0 ? v.late() - w.late() : v.done() - w.done();
            }
            return more;
        }

        static int lot(int[] z, int n) {
            z[0] = (int) (z[0] * 1103515245L + 12345L);
            return (int) (((z[0] & 0x7fffffffL) / 65536) % n);
        }

        int image() {
            image = w.twin();
            return w.tick;
        }

        int restore() {
            if (image == null) {
                return -3;
            }
            w = image.twin();
            return w.tick;
        }

        int count(int what) {
            int ready = 0;
            for (int s = 0; s < w.boxes.size(); s++) {
                ready += w.boxes.get(s).state.equals("READY") ? 1 << s : 0;
            }
            return !in(what, 0, 8) ? -1 : new int[] {w.boxes.size(), w.tick, w.load(), ready, w.jobs(), w.late(),
                w.holder(0), w.holder(1), w.holder(2)}[what];
        }

        int tray(int t, int kind, int n) {
            if (!in(t, 0, 3) || !in(kind, 0, 5) || n > 20) {
                return -1;
            }
            if (n < 0) {
                return -14;
            }
            trays[t] = new TrayModel();
            trays[t].kind = kind;
            trays[t].places = new Integer[n];
            return 1;
        }

        int lays(int t, int i, int d) {
            if (!in(t, 0, 3) || !in(d, 0, 7)) {
                return -1;
            }
            if (shelves[d] != null && shelves[d].isRow) {
                return -12;
            }
            if (trays[t] == null) {
                return -11;
            }
            if (i < 0 || i >= trays[t].places.length) {
                return -13;
            }
            String[] madeFor = {"012345", "134", "25", "3", "4", "5"};
            if (shelves[d] != null && madeFor[trays[t].kind].indexOf('0' + shelves[d].kind) < 0) {
                return -16;
            }
            trays[t].places[i] = shelves[d] == null ? null : shelves[d].kind;
            return 1;
        }

        int laid(int t, int i) {
            if (!in(t, 0, 3)) {
                return -1;
            }
            if (trays[t] == null) {
                return -11;
            }
            if (i < 0 || i >= trays[t].places.length) {
                return -13;
            }
            return trays[t].places[i] == null ? -11 : trays[t].places[i];
        }

        int like(int t, int o) {
            if (!in(t, 0, 3) || !in(o, 0, 3)) {
                return -1;
            }
            if (trays[o] == null) {
                return -11;
            }
            TrayModel made = new TrayModel();
            made.kind = trays[o].kind;
            made.places = trays[o].places.clone();
            trays[t] = made;
            return made.places.length;
        }

        int keep(int d, int what, int k, int figure) {
            if (!in(d, 0, 7) || !in(what, 0, 1) || what == 1 && (!in(k, 0, 5) || !in(figure, 0, 9))) {
                return -1;
            }
            shelves[d] = null;
            if (what == 1) {
                shelves[d] = new Thing();
                shelves[d].kind = k;
                shelves[d].figure = figure;
            }
            return 0;
        }

        int row(int d, int sort, int n) {
            if (!in(d, 0, 7) || !in(sort, 0, 2) || n > 100) {
                return -1;
            }
            if (n < 0) {
                return -14;
            }
            shelves[d] = new Thing();
            shelves[d].isRow = true;
            shelves[d].rowKind = sort;
            shelves[d].row = new int[n];
            return 0;
        }

        int put(int d, int i, int v) {
            if (rowCheck(d) != 0) {
                return rowCheck(d);
            }
            if (i < 0 || i >= shelves[d].row.length) {
                return -13;
            }
            shelves[d].row[i] = new int[] {(byte) v, (short) v, v}[shelves[d].rowKind];
            return 0;
        }

        /** -1 and -2 stand for the two exceptions, both far from what a short run puts in. */
        long element(int d, int i) {
            if (!in(d, 0, 7)) {
                return Long.MAX_VALUE - 1;
            }
            if (rowCheck(d) != 0 || i < 0 || i >= shelves[d].row.length) {
                return Long.MAX_VALUE - 2;
            }
            return shelves[d].row[i];
        }

        int copy(int d, int i, int e, int j, int n) {
            if (!in(d, 0, 7) || !in(e, 0, 7)) {
                return -1;
            }
            if (shelves[d] == null || shelves[e] == null) {
                return -11;
            }
            if (!shelves[d].isRow || !shelves[e].isRow || shelves[d].rowKind != shelves[e].rowKind) {
                return -12;
            }
            if (i < 0 || j < 0 || n < 0 || (long) i + n > shelves[d].row.length
                    || (long) j + n > shelves[e].row.length) {
                return -13;
            }
            int[] from = shelves[d].row.clone();
            for (int k = 0; k < n; k++) {
                shelves[e].row[j + k] = from[i + k];
            }
            return n;
        }

        static int costOf(int kind, int figure) {
            return new int[] {figure, 1, 2 * figure, 4, 0, 2 * figure + 1}[kind];
        }

        int cost(int d) {
            if (!in(d, 0, 7)) {
                return -1;
            }
            return shelves[d] == null ? -11 : shelves[d].isRow ? -12 : costOf(shelves[d].kind, shelves[d].figure);
        }

        int toss(int d) {
            int cost = cost(d);
            if (cost < 0) {
                return cost;
            }
            Thing t = shelves[d];
            if (t.figure == 0 || t.kind == 2) {
                return -15;
            }
            return t.kind == 0 ? t.figure : t.kind == 5 ? 200 + cost : 100 + t.figure;
        }
    }

    // ---- the runs

    private static final int[] PERIODS = {1, 2, 3, 4, 5, 6, 10, 12, 15, 20, 30, 60};
    private static final int[] WILD = {Integer.MIN_VALUE, Integer.MIN_VALUE + 1, -1000, -2, -1, 10, 21, 61, 100,
        101, 1000, Integer.MAX_VALUE - 1, Integer.MAX_VALUE};

    private final Random lots;
    private final GreedyServers real = new GreedyServers();
    private final Model model = new Model();
    private final List<String> story = new ArrayList<>();

    private ModelRuns(long seed) {
        lots = new Random(seed);
    }

    /** Mostly a number in its range, at times one just beside it or far off. */
    private int num(int low, int high) {
        int r = lots.nextInt(40);
        if (r == 0) {
            return low - 1;
        }
        if (r == 1) {
            return high + 1;
        }
        if (r == 2) {
            return WILD[lots.nextInt(WILD.length)];
        }
        return low + lots.nextInt(Math.max(1, high - low + 1));
    }

    private int srv() {
        return num(0, Math.max(0, model.w.boxes.size() - 1));
    }

    private int period() {
        return lots.nextInt(30) == 0 ? num(0, 61) : PERIODS[lots.nextInt(PERIODS.length)];
    }

    private int budgetFor(int period) {
        return lots.nextInt(20) == 0 ? num(0, 31) : 1 + lots.nextInt(Math.max(1, Math.min(30, Math.abs(period % 61))));
    }

    private boolean same(String call, long got, long want) {
        story.add(call + " -> " + want);
        if (got == want) {
            return true;
        }
        wrong++;
        if (wrong <= 5) {
            System.out.println(call + " answered " + got + ", the model says " + want + "; ahead of it:");
            for (String s : story.subList(Math.max(0, story.size() - 60), story.size())) {
                System.out.println("    " + s);
            }
        }
        return false;
    }

    private boolean script() {
        StringBuilder sb = new StringBuilder();
        int statements = lots.nextInt(9);
        for (int i = 0; i < statements; i++) {
            int r = lots.nextInt(10);
            int p = PERIODS[lots.nextInt(12)];
            int b = 1 + lots.nextInt(Math.min(30, p));
            if (r < 3) {
                sb.append(String.format("s%d%d%02d%02d;", lots.nextInt(40) == 0 ? 6 : lots.nextInt(6), lots.nextInt(10),
                    lots.nextInt(40) == 0 ? 0 : b, lots.nextInt(40) == 0 ? 61 : p));
            } else if (r < 8) {
                sb.append(String.format("j%d%d%d;", lots.nextInt(Math.min(9, model.w.boxes.size() + 1)),
                    lots.nextInt(30) == 0 ? 0 : 1 + lots.nextInt(9), lots.nextInt(lots.nextInt(30) == 0 ? 10 : 4)));
            } else {
                sb.append(String.format("t%02d;", lots.nextInt(30) == 0 ? lots.nextInt(100) : 1 + lots.nextInt(20)));
            }
        }
        if (sb.length() > 0 && lots.nextInt(4) == 0) {
            int at = lots.nextInt(sb.length());
            if (lots.nextBoolean()) {
                sb.setCharAt(at, "sjt;0159 x:/".charAt(lots.nextInt(12)));
            } else {
                sb.setLength(at);
            }
        }
        int d = lots.nextInt(8);
        boolean ok = same("row " + d, real.row(d, 0, sb.length()), model.row(d, 0, sb.length()));
        for (int i = 0; i < sb.length() && ok; i++) {
            ok = same("put " + i, real.put(d, i, sb.charAt(i)), model.put(d, i, sb.charAt(i)));
        }
        return ok && same("text " + sb, real.text(d), model.text(d));
    }

    /** A ROW that tells the truth for the most part, so that some of it is believed. */
    private boolean told() {
        int d = lots.nextInt(8);
        int sort = lots.nextInt(3);
        int n = lots.nextInt(lots.nextInt(5) == 0 ? 101 : 12);
        int sortOfTruth = lots.nextInt(3);
        boolean ok = same("row " + d + " " + sort + " " + n, real.row(d, sort, n), model.row(d, sort, n));
        boolean lie = lots.nextInt(3) == 0;
        World v = model.w.twin();
        // Whose JOB ran as if one were of another KIND or FIGURE.
        if (!v.boxes.isEmpty() && sortOfTruth == 0) {
            Box one = v.boxes.get(lots.nextInt(v.boxes.size()));
            one.kind = lots.nextInt(6);
            one.figure = lots.nextInt(10);
        }
        for (int i = 0; i < n && ok; i++) {
            int value;
            if (sortOfTruth == 0) {
                v.step(false);
                value = v.lastRunner < 0 ? 6 : v.lastRunner;
            } else if (sortOfTruth == 1) {
                value = v.load();
                v.step(false);
            } else {
                value = i < v.boxes.size() ? v.boxes.get(i).deadline : 0;
            }
            int r = lots.nextInt(12);
            if (r == 0) {
                value = sort == 0 ? -128 : sort == 1 ? -32768 : Integer.MIN_VALUE;
            } else if (r == 1 && lie) {
                value += 1 - lots.nextInt(3);
            }
            ok = same("put " + d + " " + i + " " + value, real.put(d, i, value), model.put(d, i, value));
        }
        int s = srv();
        ok = ok && same("whoRan " + d + " " + s + " 0", real.whoRan(d, s, 0), model.whoRan(d, s, 0));
        ok = ok && same("whoRan " + d + " " + s + " 1", real.whoRan(d, s, 1), model.whoRan(d, s, 1));
        ok = ok && same("judge " + d, real.judge(d), model.judge(d));
        return ok && same("forged " + d, real.forged(d), model.forged(d));
    }

    private long realElement(int d, int i) {
        try {
            return real.element(d, i);
        } catch (IllegalArgumentException e) {
            return Long.MAX_VALUE - 1;
        } catch (IllegalStateException e) {
            return Long.MAX_VALUE - 2;
        }
    }

    private boolean call() {
        int a;
        int b;
        int c;
        int e;
        int f;
        switch (lots.nextInt(60)) {
            case 0: return script();
            case 1: return told();
            case 2: a = srv(); b = num(0, 11); return same("server " + a + " " + b, real.server(a, b), model.server(a, b));
            case 3: case 4: a = srv(); b = num(0, 3); c = num(0, 3);
                return same("job " + a + " " + b + " " + c, real.job(a, b, c), model.job(a, b, c));
            case 5: a = num(0, 7); c = period(); b = budgetFor(c);
                return same("comes " + a + " " + b + " " + c, real.comes(a, b, c), model.comes(a, b, c));
            case 6: case 7: case 8: case 9: case 10: case 11: case 12: a = srv(); b = num(1, 9); c = num(0, 3);
                return same("sends " + a + " " + b + " " + c, real.sends(a, b, c), model.sends(a, b, c));
            case 13: if (lots.nextInt(3) > 0) { return true; }
                a = srv(); return same("drops " + a, real.drops(a), model.drops(a));
            case 14: case 15: case 16: case 17: a = lots.nextInt(4) > 0 ? num(1, 6) : num(1, 60);
                return same("ticks " + a, real.ticks(a), model.ticks(a));
            case 18: case 19: a = srv(); b = num(0, 99); c = num(0, 5);
                return same("then " + a + " " + b + " " + c, real.then(a, b, c), model.then(a, b, c));
            case 20: case 21: a = num(1, lots.nextBoolean() ? 99 : 9); b = num(0, 1);
                return same("runs " + a + " " + b, real.runs(a, b), model.runs(a, b));
            case 22: a = num(0, 1); return same("quiet " + a, real.quiet(a), model.quiet(a));
            case 23: a = lots.nextInt(4) == 0 ? -1 : srv(); return same("misses " + a, real.misses(a), model.misses(a));
            case 24: a = srv(); b = num(0, 99); c = num(0, 1);
                return same("ran " + a + " " + b + " " + c, real.ran(a, b, c), model.ran(a, b, c));
            case 25: b = period(); a = budgetFor(b);
                return same("admitted " + a + " " + b, real.admitted(a, b), model.admitted(a, b));
            case 26: a = num(1, 99); b = num(0, 1); return same("demand " + a + " " + b, real.demand(a, b), model.demand(a, b));
            case 27: case 28: a = srv(); b = num(0, 60); return same("needs " + a + " " + b, real.needs(a, b), model.needs(a, b));
            case 29: a = srv(); b = num(0, 60); return same("alone " + a + " " + b, real.alone(a, b), model.alone(a, b));
            case 30: case 31: a = srv(); b = num(0, 60); c = num(0, 1);
                return same("kindBest " + a + " " + b + " " + c, real.kindBest(a, b, c), model.kindBest(a, b, c));
            case 32: case 33: a = num(0, 60); return same("send " + a, real.send(a), model.send(a));
            case 34: a = num(0, 99); return same("load " + a, real.load(a), model.load(a));
            case 35: a = num(0, 7); b = srv(); c = num(0, 1);
                return same("whoRan " + a + " " + b + " " + c, real.whoRan(a, b, c), model.whoRan(a, b, c));
            case 36: case 37: a = srv(); b = srv(); c = num(1, 60);
                return same("two " + a + " " + b + " " + c, real.two(a, b, c), model.two(a, b, c));
            case 38: case 39: a = srv(); b = num(0, 7); c = num(2, 20); e = num(0, 1);
                return same("breaks " + a + " " + b + " " + c + " " + e, real.breaks(a, b, c, e), model.breaks(a, b, c, e));
            case 40: a = srv(); b = num(0, 1); return same("share " + a + " " + b, real.share(a, b), model.share(a, b));
            case 41: a = srv(); return same("bits " + a, real.bits(a), model.bits(a));
            case 42: a = srv(); return same("wide " + a, real.wide(a), model.wide(a));
            case 43: a = num(0, 7); return same("forged " + a, real.forged(a), model.forged(a));
            case 44: a = num(0, 7); return same("judge " + a, real.judge(a), model.judge(a));
            case 45: a = num(1, 20); b = lots.nextInt(); c = num(0, 1);
                return same("days " + a + " " + b + " " + c, real.days(a, b, c), model.days(a, b, c));
            case 46: if (lots.nextInt(4) > 0) { return true; }
                return same("image", real.image(), model.image());
            case 47: if (lots.nextInt(4) > 0) { return true; }
                return same("restore", real.restore(), model.restore());
            case 48: a = num(0, 8); return same("count " + a, real.count(a), model.count(a));
            case 49: a = num(0, 3); b = num(0, 5); c = num(0, 20);
                return same("tray " + a + " " + b + " " + c, real.tray(a, b, c), model.tray(a, b, c));
            case 50: case 51: a = num(0, 3); b = num(0, 5); c = num(0, 7);
                return same("lays " + a + " " + b + " " + c, real.lays(a, b, c), model.lays(a, b, c));
            case 52: a = num(0, 3); b = num(0, 5); return same("laid " + a + " " + b, real.laid(a, b), model.laid(a, b));
            case 53: a = num(0, 3); b = num(0, 3); return same("like " + a + " " + b, real.like(a, b), model.like(a, b));
            case 54: a = num(0, 7); b = lots.nextInt(5) == 0 ? num(0, 1) : 1; c = num(0, 5); e = num(0, 9);
                return same("keep " + a + " " + b + " " + c + " " + e, real.keep(a, b, c, e), model.keep(a, b, c, e));
            case 55: a = num(0, 7); b = num(0, 2); c = num(0, lots.nextBoolean() ? 9 : 100);
                return same("row " + a + " " + b + " " + c, real.row(a, b, c), model.row(a, b, c));
            case 56: a = num(0, 7); b = num(0, 9); c = lots.nextBoolean() ? num(0, 9) : lots.nextInt();
                return same("put " + a + " " + b + " " + c, real.put(a, b, c), model.put(a, b, c));
            case 57: a = num(0, 7); b = num(0, 9); return same("element " + a + " " + b, realElement(a, b), model.element(a, b));
            case 58: a = num(0, 7); b = num(0, 5); c = num(0, 7); e = num(0, 5); f = num(0, 5);
                return same("copy " + a + " " + b + " " + c + " " + e + " " + f,
                    real.copy(a, b, c, e, f), model.copy(a, b, c, e, f));
            default: a = num(0, 7);
                return same("cost " + a, real.cost(a), model.cost(a)) && same("toss " + a, real.toss(a), model.toss(a));
        }
    }

    private void begin() {
        int servers = lots.nextInt(7);
        for (int i = 0; i < servers; i++) {
            int kind = lots.nextInt(6);
            int figure = lots.nextInt(10);
            int period = PERIODS[lots.nextInt(12)];
            int budget = 1 + lots.nextInt(Math.min(30, period));
            if (lots.nextInt(3) > 0) {
                budget = Math.max(1, budget / 3);
            }
            same("keep", real.keep(i, 1, kind, figure), model.keep(i, 1, kind, figure));
            same("comes " + kind + " " + figure + " " + budget + " " + period,
                real.comes(i, budget, period), model.comes(i, budget, period));
        }
    }

    public static void main(String[] args) {
        int runs = args.length > 0 ? Integer.parseInt(args[0]) : RUNS;
        long from = args.length > 1 ? Long.parseLong(args[1]) : 1;
        for (long seed = from; seed < from + runs && wrong == 0; seed++) {
            ModelRuns run = new ModelRuns(seed);
            run.begin();
            for (int i = 0; i < CALLS && run.call(); i++) {
                // call() has told what was wrong
            }
        }
        System.out.println(wrong == 0 ? runs + " random runs are as the model says" : "some runs are not as the model says");
        if (wrong != 0) {
            System.exit(1);
        }
    }
}
