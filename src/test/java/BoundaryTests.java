import java.io.IOException;
import java.nio.file.Files;
import java.nio.file.Path;
import java.util.List;
import java.util.function.LongSupplier;

/**
 * For each sentence of the document that names a boundary case (too small, too large, empty, full, a wrap-around,
 * a refused call) a test of its own, behind the sentence's own words: told() looks them up in the document.
 * All answers are worked out by hand from the words.
 */
public final class BoundaryTests {
    private static final int MIN = Integer.MIN_VALUE;
    private static final int MAX = Integer.MAX_VALUE;
    private static final long REFUSED = Long.MIN_VALUE + 100 - (-1);
    private static final int HARD = 0;
    private static final int GREEDY = 1;
    private static final int RESTER = 2;
    private static final int SLACK = 3;
    private static final int MILD = 4;
    private static final int STRICT = 5;
    private static final int NO_LOCK = 3;
    private static final int IDLE = 0;
    private static final int READY = 1;
    private static final int RESTING = 2;
    private static final int LINGERING = 3;
    private static final int PROMISES = 43;

    /** The document's words, ahead of the promises and of each promise (1 .. 43). */
    private static final String[] DOCUMENT = new String[PROMISES + 1];
    private static final boolean[] TESTED = new boolean[PROMISES + 1];
    private static String sentence = "";
    private static int checks = 0;
    private static int wrong = 0;

    // ---- what is checked

    /** Where the document is not at hand, its words are not looked up; the answers are due all the same. */
    private static void readDocument() throws IOException {
        Path file = Path.of(System.getProperty("project.root", "."), "../shared/DOC.md");
        if (!Files.isReadable(file)) {
            System.out.println("no document to look words up in: " + file);
            return;
        }
        String rest = Files.readString(file).replaceAll("\\s+", " ");
        for (int p = 1; p <= PROMISES; p++) {
            int head = rest.indexOf("## Promise " + p + ":");
            DOCUMENT[p - 1] = rest.substring(0, head);
            rest = rest.substring(head);
        }
        DOCUMENT[PROMISES] = rest;
    }

    private static void told(int promise, String words) {
        sentence = (promise == 0 ? "" : "promise " + promise + ": ") + words;
        TESTED[promise] = true;
        checks++;
        if (DOCUMENT[promise] != null && !DOCUMENT[promise].contains(words)) {
            wrong++;
            System.out.println("the document does not say there: " + sentence);
        }
    }

    private static void told(String words) {
        told(0, words);
    }

    private static void due(String what, long got, long want) {
        checks++;
        if (got != want) {
            wrong++;
            System.out.println("[" + sentence + "] " + what + " answered " + got + ", due is " + want);
        }
    }

    /** The call answers this refusal, and nothing that can be seen is another than ahead of it. */
    private static void refused(GreedyServers x, String what, LongSupplier call, long want) {
        String before = seen(x);
        due(what, call.getAsLong(), want);
        checks++;
        if (!seen(x).equals(before)) {
            wrong++;
            System.out.println("[" + sentence + "] " + what + " was refused and changed what there is");
        }
    }

    private static String seen(GreedyServers x) {
        StringBuilder all = new StringBuilder();
        for (int what = 0; what < 9; what++) {
            all.append(x.count(what)).append(' ');
        }
        for (int s = 0; s < x.count(0); s++) {
            for (int what = 0; what < 12; what++) {
                all.append(x.server(s, what)).append(' ');
            }
            for (int i = 0; i < x.server(s, 8); i++) {
                for (int what = 0; what < 4; what++) {
                    all.append(x.job(s, i, what)).append(' ');
                }
            }
        }
        for (int d = 0; d < 8; d++) {
            all.append('|').append(x.cost(d)).append(' ').append(x.toss(d));
            for (int e = 0; e < 8; e++) {
                all.append(' ').append(x.copy(d, 0, e, 0, 0));
            }
            for (int i = 0; thrown(x, d, i) == 0; i++) {
                all.append(' ').append(x.element(d, i));
            }
        }
        for (int t = 0; t < 4; t++) {
            all.append('|');
            for (int i = 0; i < 21; i++) {
                all.append(x.laid(t, i)).append(' ');
            }
        }
        return all.toString();
    }

    /** 0 nothing is thrown, 1 IllegalArgumentException, 2 IllegalStateException. */
    private static int thrown(GreedyServers x, int d, int i) {
        try {
            x.element(d, i);
            return 0;
        } catch (IllegalArgumentException e) {
            return 1;
        } catch (IllegalStateException e) {
            return 2;
        }
    }

    // ---- what is given

    private static GreedyServers with(int kind, int figure, int budget, int period) {
        GreedyServers x = new GreedyServers();
        add(x, kind, figure, budget, period);
        return x;
    }

    private static int add(GreedyServers x, int kind, int figure, int budget, int period) {
        x.keep(7, 1, kind, figure);
        return x.comes(7, budget, period);
    }

    private static void write(GreedyServers x, int d, String text) {
        x.row(d, 0, text.length());
        for (int i = 0; i < text.length(); i++) {
            x.put(d, i, text.charAt(i));
        }
    }

    private static int say(GreedyServers x, String text) {
        write(x, 0, text);
        return x.text(0);
    }

    /** A new object to which these texts (100 bytes at most each) came. */
    private static GreedyServers said(String... texts) {
        GreedyServers x = new GreedyServers();
        for (String text : texts) {
            due("the test's own text " + text, say(x, text) > 0 ? 1 : 0, 1);
        }
        return x;
    }

    private static void tell(GreedyServers x, int d, int sort, int... values) {
        x.row(d, sort, values.length);
        for (int i = 0; i < values.length; i++) {
            x.put(d, i, values[i]);
        }
    }

    private static void goTo(GreedyServers x, int tick) {
        while (x.count(1) < tick) {
            x.ticks(Math.min(60, tick - x.count(1)));
        }
    }

    private static String times(int n, String text) {
        return text.repeat(n);
    }

    // ---- Use, and Terms: TICK, SERVERS, JOBS

    private static void use() {
        told("An object is used for at most 512 calls after it has been made");
        GreedyServers x = new GreedyServers();
        x.keep(0, 1, HARD, 0);
        x.comes(0, 1, 1);
        for (int call = 3; call <= 510; call += 2) {
            x.sends(0, 1, NO_LOCK);
            x.ticks(1);
        }
        due("the 511th call", x.count(1), 254);
        due("the 512th call", x.server(0, 10), 254);
    }

    private static void tick() {
        told("TICK (0 .. 9999; 0 at first)");
        GreedyServers x = new GreedyServers();
        due("at first", x.count(1), 0);
        goTo(x, 9998);
        refused(x, "two from 9998", () -> x.ticks(2), -3);
        due("one from 9998", x.ticks(1), 0);
        due("the last", x.count(1), 9999);
        refused(x, "one from 9999", () -> x.ticks(1), -3);
        refused(x, "60 from 9999", () -> x.ticks(60), -3);
    }

    private static void servers() {
        told("SERVERS 0 .. as they come (6 at most)");
        GreedyServers x = new GreedyServers();
        due("none at first", x.count(0), 0);
        for (int s = 0; s < 6; s++) {
            due("its number", add(x, s, s, 1, 60), s);
        }
        refused(x, "a seventh", () -> x.comes(7, 1, 60), -2);
        due("six", x.count(0), 6);
        due("the last", x.server(5, 0), STRICT);
        due("behind the last", x.server(6, 0), -1);
        due("LOAD of six", x.count(2), 0);
        due("FIRST of six", x.misses(-1), -4);
        due("FREE of six", x.quiet(1), 0);
        due("DEMAND of six", x.demand(60, 0), 6);
        due("FITS of six", x.demand(60, 1), 1);
        due("SEND of six", x.send(60), -4);
        due("ALONE of six", x.alone(5, 60), 0);

        told("with a FIGURE (0 .. 9)");
        due("least", with(SLACK, 0, 1, 60).server(0, 1), 0);
        due("greatest", with(SLACK, 9, 1, 60).server(0, 1), 9);
        refused(x, "below", () -> x.keep(7, 1, SLACK, -1), -1);
        refused(x, "above", () -> x.keep(7, 1, SLACK, 10), -1);
    }

    private static void budgets() {
        told("a BUDGET (1 .. 30)");
        due("least", with(HARD, 0, 1, 60).server(0, 2), 1);
        due("greatest", with(HARD, 0, 30, 60).server(0, 2), 30);
        GreedyServers x = with(HARD, 0, 1, 60);
        for (int budget : new int[] {0, 31, -1, 60, MIN, MAX}) {
            refused(x, "BUDGET " + budget, () -> x.comes(7, budget, 60), -1);
        }

        told("a PERIOD (a divisor of 60, not below BUDGET)");
        List<Integer> divisors = List.of(1, 2, 3, 4, 5, 6, 10, 12, 15, 20, 30, 60);
        for (int period = -61; period <= 121; period++) {
            int p = period;
            due("BUDGET 1 in " + p, with(HARD, 0, 1, p).count(0), divisors.contains(p) ? 1 : 0);
            due("BUDGET 1 in " + p + " admitted", new GreedyServers().admitted(1, p), divisors.contains(p) ? 1 : -1);
        }
        for (int period : divisors) {
            int most = Math.min(30, period);
            due("BUDGET as PERIOD " + period, with(HARD, 0, most, period).server(0, 2), most);
            refused(x, "PERIOD " + period + " below BUDGET", () -> x.comes(7, most + 1, period), -1);
        }
        for (int period : new int[] {MIN, MAX, MIN + 4, 120, 0}) {
            refused(x, "PERIOD " + period, () -> x.comes(7, 1, period), -1);
        }

        told("its SHARE: 60 times BUDGET by PERIOD (sixtieths)");
        due("least", with(HARD, 0, 1, 60).server(0, 4), 1);
        due("greatest, of one", with(HARD, 0, 1, 1).server(0, 4), 60);
        due("greatest, of 30", with(HARD, 0, 30, 30).server(0, 4), 60);
        due("the greatest BUDGET in the greatest PERIOD", with(HARD, 0, 30, 60).server(0, 4), 30);

        told("LEFT (in sixtieths of a TICK; 0 at first), DEADLINE (a TICK; 0 at first)");
        GreedyServers y = new GreedyServers();
        y.ticks(7);
        add(y, GREEDY, 0, 3, 10);
        due("LEFT of one that came at TICK 7", y.server(0, 5), 10000);
        due("DEADLINE of one that came at TICK 7", y.server(0, 6), 0);
    }

    private static void jobs() {
        told("JOBS that wait in a row (4 at most), the first is its own JOB now");
        GreedyServers x = said("s000101;j012;j023;j033;j043;");
        due("four", x.server(0, 8), 4);
        refused(x, "a fifth", () -> x.sends(0, 5, NO_LOCK), -2);
        due("the first", x.job(0, 0, 0), 1);
        due("the last", x.job(0, 3, 0), 4);
        due("behind the last", x.job(0, 4, 0), -1);
        x.ticks(1);
        due("the next is the first", x.job(0, 0, 0), 2);
        due("and has no LOCK", x.job(0, 0, 1), 3);
        due("no fourth", x.job(0, 3, 0), -1);
        due("room again", x.sends(0, 5, NO_LOCK), 4);

        told("A JOB: WORK left (1 .. 9), a LOCK 0 .. 2 or none");
        GreedyServers y = with(HARD, 0, 1, 60);
        for (int work : new int[] {0, 10, -1, MIN, MAX}) {
            refused(y, "WORK " + work, () -> y.sends(0, work, 0), -1);
        }
        for (int lock : new int[] {-1, 4, MIN, MAX}) {
            refused(y, "LOCK " + lock, () -> y.sends(0, 1, lock), -1);
        }
        due("least", y.sends(0, 1, 0), 1);
        due("greatest", y.sends(0, 9, 2), 2);
        due("none", y.sends(0, 9, 3), 3);
        due("least WORK", y.job(0, 0, 0), 1);
        due("greatest WORK", y.job(0, 1, 0), 9);
        due("least LOCK", y.job(0, 0, 1), 0);
        due("greatest LOCK", y.job(0, 1, 1), 2);

        told("it HOLDS its LOCK from the TICK in which it has run first on");
        GreedyServers z = said("s000360;j020;j010;");
        due("not ahead of it", z.job(0, 0, 2), 0);
        due("whose", z.count(6), -4);
        z.ticks(1);
        due("behind it", z.job(0, 0, 2), 1);
        due("whose", z.count(6), 0);
        z.ticks(1);
        due("the next has not run", z.job(0, 0, 2), 0);
        due("whose", z.count(6), -4);
        z.ticks(1);
        due("DONE in its one TICK: free", z.count(6), -4);
    }

    private static void states() {
        told("STATE of a SERVER: IDLE (at first), READY (it has JOBS), RESTING (READY else, but it waits for its"
            + " DEADLINE), LINGERING (it has none, and is active yet)");
        // 2 runs in TICK 0 and RESTS till 15, 3 is through in TICK 1 and LINGERS till 8, 1 has not run yet.
        GreedyServers x = said("s000160;s000260;s200115;s000430;j193;j223;j313;t02;");
        due("without JOBS so far", x.server(0, 7), IDLE);
        due("with JOBS", x.server(1, 7), READY);
        due("with JOBS, but no LEFT", x.server(2, 7), RESTING);
        due("without JOBS, but with LEFT", x.server(3, 7), LINGERING);
        due("READY alone", x.count(3), 2);

        told("ACTIVE: all but IDLE ones. LOAD: SHARES of all ACTIVE ones together.");
        due("READY 2, RESTING 4, LINGERING 8, but not IDLE 1", x.count(2), 14);
        due("of none", new GreedyServers().count(2), 0);
        due("of IDLE ones", said("s000101;s003030;").count(2), 0);
        due("above 60", said("s000101;s003030;s000101;s003030;s000101;s003030;",
            "j013;j113;j213;j313;j413;j513;").count(2), 360);
    }

    /** Of a HARD one of BUDGET 1 in 1: WORK of a JOB that comes as it has none is LATE but for its first TICK. */
    private static void lateAndDone() {
        told("LATE: how many TICKS its JOBS ran behind their SERVER's first DEADLINE for them, see below (0 at first;"
            + " 999 at most).");
        GreedyServers x = with(HARD, 0, 1, 1);
        due("at first", x.server(0, 9), 0);
        // The next JOB's FIRST DEADLINE is the TICK in which it runs first: 8 and 9 and 9 and 9 a round.
        for (int i = 0; i < 7; i++) {
            due("140 more", say(x, times(4, "j093;j093;j093;j093;t36;")), 20);
        }
        due("so far", x.server(0, 9), 980);
        say(x, "j093;t09;j093;t09;j033;t03;");
        due("one below", x.server(0, 9), 998);
        x.sends(0, 9, NO_LOCK);
        due("in mind: it is LATE more once", x.misses(0), 2);
        due("in mind: 999 at most", x.then(0, 9, 4), 999);
        due("in mind: LATE of all, 999 of it", x.kindBest(0, 60, 1), 999);
        x.ticks(2);
        due("the most", x.server(0, 9), 999);
        due("of all", x.ticks(7), 999);
        due("no more", x.server(0, 9), 999);
        x.sends(0, 9, NO_LOCK);
        due("in mind: never LATE more", x.misses(0), -4);
        due("in mind: LATE more alone", x.alone(0, 60), 0);

        told("DONE: how many JOBS it has ended (0 at first; 999 at most).");
        GreedyServers y = with(HARD, 0, 1, 1);
        due("at first", y.server(0, 10), 0);
        write(y, 0, times(4, "j013;j013;j013;j013;t04;"));
        for (int i = 0; i < 62; i++) {
            y.text(0);
        }
        due("so far", y.server(0, 10), 992);
        say(y, "j013;j013;j013;j013;t04;j013;j013;t02;j013;j013;");
        due("one below", y.server(0, 10), 998);
        due("in mind: the most", y.then(0, 1, 5), 999);
        due("in mind: no more", y.then(0, 2, 5), 999);
        due("in mind: DONE more, together", y.days(1, 5, 1), 1);
        y.ticks(1);
        due("the most", y.server(0, 10), 999);
        y.ticks(1);
        due("no more", y.server(0, 10), 999);
        due("but the JOB is through", y.server(0, 8), 0);
    }

    // ---- Terms: what they pay, what they get

    private static void paysHardAndGreedy() {
        told("PAYS (from LEFT for a TICK run on its budget): HARD 60;");
        due("whatever LOAD is", said("s000160;").server(0, 11), 60);
        GreedyServers x = said("s000460;j013;t01;");
        due("LEFT is 60 less", x.server(0, 5), 10180);

        told("GREEDY LOAD, but at least its own SHARE, at most 60;");
        // An IDLE one of SHARE 1, at LOADS of the others.
        due("LOAD 59", said("s100160;s003060;s002960;j113;j213;").server(0, 11), 59);
        due("LOAD 60", said("s100160;s003060;s003060;j113;j213;").server(0, 11), 60);
        due("LOAD 61", said("s100160;s003060;s003060;s000160;j113;j213;j313;").server(0, 11), 60);
        due("LOAD 0", said("s100160;s003060;").server(0, 11), 1);
        due("LOAD 9, SHARE 10", said("s100530;s000960;j113;").server(0, 11), 10);
        due("LOAD 10, SHARE 10", said("s100530;s001060;j113;").server(0, 11), 10);
        due("LOAD 11, SHARE 10", said("s100530;s001160;j113;").server(0, 11), 11);
        due("SHARE 60", said("s100101;").server(0, 11), 60);
    }

    private static void paysOthers() {
        told("SLACK FIGURE less than a GREEDY one, but at least its own SHARE;");
        due("FIGURE 0", said("s300160;s003060;s002960;j113;j213;").server(0, 11), 59);
        due("FIGURE 9", said("s390160;s003060;s002960;j113;j213;").server(0, 11), 50);
        due("less than the 60 that a GREEDY one pays of LOAD 90", said("s390160;s003060;s003060;s003060;"
            + "j113;j213;j313;").server(0, 11), 51);
        due("down to its SHARE", said("s350530;s001560;j113;").server(0, 11), 10);
        due("one above its SHARE", said("s350530;s001660;j113;").server(0, 11), 11);
        due("one below its SHARE would be", said("s350530;s001460;j113;").server(0, 11), 10);
        due("SHARE 60", said("s390101;").server(0, 11), 60);
        due("below 0 would be", said("s390160;").server(0, 11), 1);

        told("MILD half of (60 and what a GREEDY one PAYS), cut;");
        due("half of 119", said("s400160;s003060;s002960;j113;j213;").server(0, 11), 59);
        due("half of 120", said("s400160;s003060;s003060;j113;j213;").server(0, 11), 60);
        due("at most 60", said("s400160;s003060;s003060;s000160;j113;j213;j313;").server(0, 11), 60);
        due("half of 61", said("s400160;").server(0, 11), 30);
        due("half of 62", said("s400260;").server(0, 11), 31);

        told("RESTER, STRICT as HARD.");
        due("RESTER", said("s200160;").server(0, 11), 60);
        due("STRICT", said("s590160;").server(0, 11), 60);
    }

    /** GREEDY 0 (60 LEFT, SHARE 1) pays LOAD 59 in TICK 0 and has 1 LEFT; its DEADLINE is 60. */
    private static GreedyServers withOneLeft(int work) {
        return said("s100160;s003060;s002860;s000160;j0" + work + "3;j193;j293;t01;");
    }

    private static void refill() {
        told("REFILL, when LEFT is 0 or less behind a TICK and it is READY:");
        GreedyServers x = withOneLeft(9);
        due("LEFT 1 is not 0", x.server(0, 5), 10001);
        due("no REFILL", x.server(0, 6), 60);
        x = said("s000110;j093;t01;");
        due("LEFT was 0: a REFILL", x.server(0, 5), 10060);
        due("its DEADLINE", x.server(0, 6), 20);
        x = said("s000110;j013;t01;");
        due("LEFT is 0, but it is not READY", x.server(0, 5), 10000);
        due("its DEADLINE stays", x.server(0, 6), 10);
        due("it LINGERS", x.server(0, 7), LINGERING);

        told("HARD: LEFT is 60 times BUDGET more, DEADLINE PERIOD more (again, while LEFT is 0 or less);");
        // LOAD 60 from TICK 1 on: LEFT 1 less 60 and 60 more is 1, so once is enough.
        x = withOneLeft(9);
        x.sends(3, 9, NO_LOCK);
        x.ticks(1);
        due("-59 and 60", x.server(0, 5), 10001);
        due("once", x.server(0, 6), 120);

        told("RESTER: it is RESTING; at its DEADLINE (as the TICK of that number begins) it is READY, LEFT is 60 times"
            + " BUDGET, DEADLINE PERIOD more;");
        x = said("s200210;j093;t01;");
        due("LEFT 60: READY", x.server(0, 7), READY);
        x.ticks(1);
        due("LEFT 0: RESTING", x.server(0, 7), RESTING);
        due("its DEADLINE", x.server(0, 6), 10);
        due("RESTING through TICK 9", x.then(0, 8, 3), RESTING);
        due("nobody in TICK 9", x.runs(8, 0), -4);
        due("chosen in TICK 10", x.runs(9, 0), 0);
        due("READY in TICK 10", x.then(0, 9, 3), READY);
        due("LEFT 120 less 60", x.then(0, 9, 1), 10060);
        due("DEADLINE", x.then(0, 9, 2), 20);

        told("STRICT as a RESTER, but LEFT is 60 times BUDGET and what LEFT was (below 0 or 0).");
        x = said("s500210;j093;t02;");
        due("LEFT 0: RESTING", x.server(0, 7), RESTING);
        due("RESTING through TICK 9", x.then(0, 8, 3), RESTING);
        due("LEFT 120 and 0 less 60", x.then(0, 9, 1), 10060);
        strictBelowNought();
    }

    /**
     * A SLACK one pays 51 (LOAD 60, FIGURE 9) of 240 in TICKS 0 and 1 and has 138 LEFT. Thought to be a RESTER or
     * STRICT, it RESTS with -42 from TICK 5 to 10, has 240 or 198 then, ends its JOB in that TICK and LINGERS with
     * 180 till TICK 13, with 138 till TICK 15. So GREEDY 1 pays 36 or 60 of its 120 in TICKS 13 and 14: the STRICT
     * one lets it come to 0 and have DEADLINE 40, and 2 (20) runs in TICK 15.
     */
    private static void strictBelowNought() {
        GreedyServers x = said("s390410;s100620;s100310;j063;j293;j183;t02;");
        due("LEFT", x.server(0, 5), 10138);
        x.row(1, 0, 14);
        for (int i = 0; i < 13; i++) {
            x.put(1, i, -128);
        }
        int both = 1 << RESTER | 1 << STRICT;
        x.put(1, 13, 1);
        due("240 anew", x.whoRan(1, 0, 0) & both, 1 << RESTER);
        x.put(1, 13, 2);
        due("240 less 42", x.whoRan(1, 0, 0) & both, 1 << STRICT);
    }

    private static void comes() {
        told("A JOB COMES to a SERVER (at TICK t, ahead of what goes on in it): behind those that wait.");
        GreedyServers x = said("s000310;t04;j023;j013;");
        due("the first", x.job(0, 0, 0), 2);
        due("behind it", x.job(0, 1, 0), 1);
        due("it runs in that TICK", x.runs(1, 1), 0);

        told("If the SERVER was IDLE, or LINGERING: it is READY;");
        due("IDLE", x.server(0, 7), READY);
        x = said("s000310;j013;t01;j013;");
        due("LINGERING", x.server(0, 7), READY);
        x = said("s200110;j023;t01;j013;");
        due("RESTING stays so", x.server(0, 7), RESTING);

        told("and if it was IDLE, or LEFT is 0 or less, or LEFT times PERIOD is 60 times BUDGET times (DEADLINE less t)"
            + " or more: LEFT is 60 times BUDGET and DEADLINE t and PERIOD.");
        comesIdle();
        comesLingering();
    }

    private static void comesIdle() {
        // Dropped with 60 LEFT of 120 at TICK 1: 60 times 10 is below 120 times 9, but it is IDLE.
        GreedyServers x = said("s000210;j023;t01;");
        x.drops(0);
        due("LEFT as it was", x.server(0, 5), 10060);
        x.sends(0, 1, NO_LOCK);
        due("LEFT of one that was IDLE", x.server(0, 5), 10120);
        due("its DEADLINE", x.server(0, 6), 11);
        // A READY one, RESTING one: neither LEFT nor DEADLINE.
        x = said("s000210;j023;t01;j013;");
        due("LEFT of one that was READY", x.server(0, 5), 10060);
        due("its DEADLINE", x.server(0, 6), 10);
        x = said("s200110;j023;t01;j013;");
        due("LEFT of one that was RESTING", x.server(0, 5), 10000);
        due("its DEADLINE", x.server(0, 6), 10);
    }

    private static void comesLingering() {
        // 60 LEFT of 120, PERIOD 10, DEADLINE 10: 600 is below 120 times 6 at TICK 4, and just 120 times 5 at TICK 5.
        GreedyServers x = said("s000210;j013;t04;j013;");
        due("below: LEFT stays", x.server(0, 5), 10060);
        due("below: DEADLINE stays", x.server(0, 6), 10);
        due("below: FIRST DEADLINE", x.job(0, 0, 3), 10);
        x = said("s000210;j013;t05;");
        due("LINGERING ahead of TICK 5", x.server(0, 7), LINGERING);
        x.sends(0, 1, NO_LOCK);
        due("just so: LEFT anew", x.server(0, 5), 10120);
        due("just so: DEADLINE anew", x.server(0, 6), 15);
        due("just so: FIRST DEADLINE", x.job(0, 0, 3), 15);
        // LEFT 1 of 60 in 60: 60 is below 60 times 59. LEFT 0, LEFT -59: anew, though 59 TICKS are to go.
        x = withOneLeft(1);
        x.sends(0, 1, NO_LOCK);
        due("LEFT 1 stays", x.server(0, 5), 10001);
        due("DEADLINE stays", x.server(0, 6), 60);
        x = said("s000160;j013;t01;");
        due("LEFT 0", x.server(0, 5), 10000);
        x.sends(0, 1, NO_LOCK);
        due("LEFT 0: anew", x.server(0, 5), 10060);
        due("DEADLINE anew", x.server(0, 6), 61);
        x = withOneLeft(2);
        x.sends(3, 9, NO_LOCK);
        x.ticks(1);
        due("LEFT -59", x.server(0, 5), 9941);
        x.sends(0, 1, NO_LOCK);
        due("LEFT -59: anew", x.server(0, 5), 10060);
        due("DEADLINE anew", x.server(0, 6), 62);
    }

    private static void firstDeadline() {
        told("FIRST DEADLINE of a JOB: the DEADLINE its SERVER has as it becomes its own JOB now.");
        GreedyServers x = said("s000110;j023;j013;");
        due("of the first", x.job(0, 0, 3), 10);
        due("of one that waits", x.job(0, 1, 3), -4);
        x.ticks(1);
        due("the SERVER's is another", x.server(0, 6), 20);
        due("but not the JOB's", x.job(0, 0, 3), 10);
        x.ticks(1);
        // It becomes the JOB now in (5), ahead of the REFILL in (6).
        due("of the next", x.job(0, 0, 3), 20);
        due("the SERVER's behind the REFILL", x.server(0, 6), 30);
    }

    // ---- Terms: a TICK goes on

    private static void tickWakes() {
        told("(1) RESTING ones whose DEADLINE is t or less are READY again as told.");
        // 0 has the first five TICKS; RESTER 1 runs in TICK 5, and RESTS with DEADLINE 5 already behind it.
        GreedyServers x = said("s000505;s200105;j053;j193;");
        due("RESTS behind its DEADLINE", x.then(1, 6, 3), RESTING);
        due("its DEADLINE", x.then(1, 6, 2), 5);
        due("in TICK 5", x.runs(6, 0), 1);
        due("READY again in TICK 6", x.runs(7, 0), 1);
        due("its DEADLINE is one PERIOD more", x.then(1, 7, 2), 10);
        due("not in TICK 7", x.runs(8, 0), -4);
        due("not in TICK 9", x.runs(10, 0), -4);
        due("in TICK 10", x.runs(11, 0), 1);

        told("(2) LINGERING ones are IDLE if 60 times BUDGET times (DEADLINE less t) is LEFT times PERIOD or less.");
        // 120 times (10 less t) is 600 or less at TICK 5 first.
        x = said("s000210;j013;t01;");
        due("LINGERING through TICK 4", x.then(0, 4, 3), LINGERING);
        due("IDLE in TICK 5", x.then(0, 5, 3), IDLE);
        // LEFT 0: in the TICK of its DEADLINE.
        x = said("s000210;j023;t02;");
        due("LINGERING through TICK 9", x.then(0, 8, 3), LINGERING);
        due("IDLE in TICK 10", x.then(0, 9, 3), IDLE);
        // MILD of SHARE 24 pays 42: LEFT -6 behind three TICKS; 120 times (5 less t) is -30 or less at TICK 6 first.
        x = said("s400205;j033;t03;");
        due("LEFT -6", x.server(0, 5), 9994);
        due("LINGERING through TICK 5", x.then(0, 3, 3), LINGERING);
        due("IDLE in TICK 6", x.then(0, 4, 3), IDLE);
    }

    private static void tickChooses() {
        told("(3) Of the READY ones the one with the earliest DEADLINE is chosen, of several the least number (none:"
            + " nothing runs).");
        GreedyServers x = said("s000330;s000320;s000320;s000310;j013;j113;j213;");
        due("earliest of the READY ones, the least number", x.runs(1, 0), 1);
        due("then the other one", x.runs(2, 0), 2);
        due("then the later one", x.runs(3, 0), 0);
        due("none", x.runs(4, 0), -4);
        due("nothing runs", x.runs(4, 1), -4);
        due("TICK goes on", x.ticks(60), 0);
        due("TICK", x.count(1), 60);

        told("(4) If the LOCK of its JOB is HELD by the JOB now of another SERVER, that JOB runs in its stead, else its"
            + " own: WORK is 1 less, it HOLDS its LOCK.");
        x = said("s200110;s000530;j031;j191;");
        due("its own, nobody HOLDS it", x.runs(1, 1), 0);
        due("the holder's in its stead", x.runs(2, 1), 0);
        due("on its budget", x.runs(2, 0), 1);
        due("the holder's last", x.runs(3, 1), 0);
        due("its own, it is free", x.runs(4, 1), 1);
        due("its own, it HOLDS it itself", x.runs(5, 1), 1);
        x = said("s200110;s000530;j033;j193;");
        due("no LOCK hinders nobody", x.runs(2, 1), 1);
        x = said("s200110;s000530;j030;j192;");
        due("nor does another LOCK", x.runs(2, 1), 1);
        // The one that waits behind 0's JOB now wants LOCK 1, but HOLDS nothing.
        x = said("s200110;s000530;j023;j091;j191;");
        due("nor one that waits", x.runs(2, 1), 1);
    }

    private static void tickPays() {
        told("The chosen SERVER PAYS (LOAD as it is then).");
        // LOAD is 12 and 24 in TICK 0, in which 0 is through: it LINGERS yet and counts.
        GreedyServers x = said("s100210;s100230;j013;j123;t01;");
        due("its own SHARE 12 and 4", x.server(0, 5), 10120 - 16);
        // 0 LINGERS with 104 of 120 by DEADLINE 10: IDLE in TICK 2, so 1 pays 16 in TICK 1 and 4 in TICK 2.
        x.ticks(1);
        due("1 pays for the LINGERING one", x.server(1, 5), 10120 - 16);
        x = said("s100210;s100230;j013;j133;t03;");
        due("but not for one that is IDLE in that TICK", x.server(1, 5), 10120 - 16 - 4);

        told("If t is not below the JOB's FIRST DEADLINE, its SERVER is 1 more LATE.");
        x = said("s000202;j033;");
        due("TICK 1 is below 2", x.ticks(2), 0);
        due("TICK 2 is not", x.ticks(1), 1);
        // 0's JOB runs in all TICKS, in 1 .. 3 and 5 on 1's budget; it is LATE in TICKS 4 and 5.
        x = said("s200104;s000560;j091;j191;t06;");
        due("chosen in TICK 5", x.server(1, 5), 10060);
        due("of the JOB's SERVER", x.server(0, 9), 2);
        due("not of the chosen one", x.server(1, 9), 0);
    }

    private static void tickEnds() {
        told("(5) A JOB without WORK left is DONE: it HOLDS no LOCK, its SERVER has the next one as its JOB now; has it"
            + " none, it is LINGERING (if RESTING, too).");
        GreedyServers x = said("s000310;j020;j010;");
        x.ticks(1);
        due("WORK 1 is some", x.server(0, 10), 0);
        due("HOLDS", x.count(6), 0);
        x.ticks(1);
        due("DONE", x.server(0, 10), 1);
        due("HOLDS none", x.count(6), -4);
        due("the next", x.job(0, 0, 0), 1);
        due("READY yet", x.server(0, 7), READY);
        x.ticks(1);
        due("none: LINGERING", x.server(0, 7), LINGERING);
        x = said("s200110;s000530;j021;j191;t01;");
        due("RESTING", x.server(0, 7), RESTING);
        x.ticks(1);
        due("DONE on another's budget: LINGERING", x.server(0, 7), LINGERING);
        x = said("s200110;s000530;j021;j013;j191;t02;");
        due("with a next one: RESTING", x.server(0, 7), RESTING);
        due("the next", x.job(0, 0, 1), 3);

        told("(6) The chosen SERVER, if it is READY yet and LEFT is 0 or less: REFILL. TICK is 1 more.");
        // 1 (60 LEFT) pays for 0's JOB, and it is 1 that has the REFILL; 0 with LEFT 0 RESTS without one.
        x = said("s200110;s000130;j031;j191;t02;");
        due("of the chosen one", x.server(1, 6), 60);
        due("its LEFT", x.server(1, 5), 10060);
        due("not of the JOB's", x.server(0, 6), 10);
        x = said("s000130;j013;t01;");
        due("not of one that LINGERS", x.server(0, 6), 30);
        due("TICK", x.count(1), 1);
    }

    // ---- Terms: THE TEXT

    private static void textForm() {
        told("STATEMENTS, each with \";\" behind, one at least:");
        GreedyServers x = new GreedyServers();
        refused(x, "none", () -> sayAgain(x, ""), -1000);
        refused(x, "no \";\"", () -> sayAgain(x, "t01"), -1003);
        refused(x, "a \";\" alone", () -> sayAgain(x, ";"), -1000);
        refused(x, "a \";\" more", () -> sayAgain(x, "t01;;"), -1004);
        refused(x, "no \";\" between", () -> sayAgain(x, "t01t01;"), -1003);
        due("one", say(x, "t01;"), 1);
        due("a full ROW", say(x, times(25, "t01;")), 25);
        due("TICK", x.count(1), 26);

        told("\"s\" KIND, FIGURE (a digit each), BUDGET, PERIOD (2 digits each): a SERVER more;");
        due("least and greatest", say(x, "s000101;s593060;"), 2);
        due("KIND", x.server(1, 0), STRICT);
        due("FIGURE", x.server(1, 1), 9);
        due("BUDGET", x.server(1, 2), 30);
        due("PERIOD", x.server(1, 3), 60);
        for (String bad : new String[] {"s600101;", "s900101;", "s000001;", "s003160;", "s009999;", "s000100;",
            "s000107;", "s000161;", "s000199;", "s000201;"}) {
            refused(x, bad, () -> sayAgain(x, bad), -2000);
        }
    }

    /** Like say(), by SHELF 6, which holds nothing again behind it: so refused() sees all else that changes. */
    private static int sayAgain(GreedyServers x, String text) {
        write(x, 6, text);
        int answer = x.text(6);
        x.keep(6, 0, 0, 0);
        return answer;
    }

    private static void textJobsAndTicks() {
        told("\"j\" a SERVER, WORK, LOCK (a digit each; 3: none): a JOB COMES;");
        GreedyServers x = said("s000160;s000160;");
        for (String bad : new String[] {"j213;", "j913;", "j003;", "j014;", "j019;"}) {
            refused(x, bad, () -> sayAgain(x, bad), -2000);
        }
        due("least and greatest", say(x, "j010;j192;j193;"), 3);
        due("least WORK", x.job(0, 0, 0), 1);
        due("least LOCK", x.job(0, 0, 1), 0);
        due("greatest WORK", x.job(1, 0, 0), 9);
        due("greatest LOCK", x.job(1, 0, 1), 2);
        due("none", x.job(1, 1, 1), 3);

        told("\"t\" TICKS (2 digits, 1 .. 60): they go on.");
        for (String bad : new String[] {"t00;", "t61;", "t99;"}) {
            refused(x, bad, () -> sayAgain(x, bad), -2000);
        }
        due("least", say(x, "t01;"), 1);
        due("TICK", x.count(1), 1);
        due("greatest", say(x, "t60;"), 1);
        due("TICK", x.count(1), 61);
    }

    private static void textFaults() {
        told("FAULT: kind 1 the place of the first byte with which no TEXT can go on (the end, if something lacks):"
            + " -1000 less the place;");
        GreedyServers x = with(HARD, 0, 1, 1);
        for (int place = 0; place < 8; place++) {
            String begun = "s000101;".substring(0, place);
            int at = place;
            refused(x, "the end of " + begun, () -> sayAgain(x, begun), -1000 - at);
            refused(x, "a sign behind " + begun, () -> sayAgain(x, begun + "x0000000"), -1000 - at);
        }
        for (String sign : new String[] {"/", ":", ";", "s", " ", "-", "+"}) {
            refused(x, sign + " for a digit", () -> sayAgain(x, "j0" + sign + "3;"), -1002);
        }
        for (String sign : new String[] {"S", "J", "T", "r", "u", "0", " ", "\n"}) {
            refused(x, sign + " for a letter", () -> sayAgain(x, sign + "013;"), -1000);
        }
        refused(x, "a number for \";\"", () -> sayAgain(x, "j0133"), -1004);
        refused(x, "the last place of a full ROW", () -> sayAgain(x, times(24, "t01;") + "t01x"), -1099);
        refused(x, "the end of a full ROW", () -> sayAgain(x, times(24, "t01;") + "j013"), -1100);
        refused(x, "kind 1 ahead of kind 2", () -> sayAgain(x, "t00;t00;t00"), -1011);
        x.row(0, 0, 4);
        due("bytes of 0", x.text(0), -1000);
        x.put(0, 0, 't' + 256);
        x.put(0, 1, '0' + 128);
        due("a byte below 0", x.text(0), -1001);

        told("else kind 2 the place of the letter of the first STATEMENT that is not as it must be (a number out of"
            + " range, no such SERVER, no room, TICK above 9999): -2000 less the place.");
        GreedyServers y = said("s000101;s000101;s000101;s000101;s000101;j013;j013;j013;j013;");
        refused(y, "the first place", () -> sayAgain(y, "t00;t01;"), -2000);
        refused(y, "a number out of range", () -> sayAgain(y, "t01;t61;t00;"), -2004);
        refused(y, "no such SERVER", () -> sayAgain(y, "j113;j513;"), -2005);
        refused(y, "no room for a JOB", () -> sayAgain(y, "j113;j013;"), -2005);
        refused(y, "no room for a SERVER", () -> sayAgain(y, "s000101;s000101;"), -2008);
        refused(y, "the last STATEMENT of a full ROW", () -> sayAgain(y, times(24, "t01;") + "t00;"), -2096);
        goTo(y, 9998);
        refused(y, "TICK above 9999", () -> sayAgain(y, "t01;t01;"), -2004);
        refused(y, "TICK above 9999 at once", () -> sayAgain(y, "t02;"), -2000);
        due("TICK 9999", say(y, "t01;"), 1);

        told("Without FAULT all of it comes, with one nothing.");
        GreedyServers z = said("s000110;");
        refused(z, "with one at the end", () -> sayAgain(z, "s000110;j013;t05;t00;"), -2017);
        due("without", say(z, "s000110;j013;t05;"), 3);
        due("a SERVER", z.count(0), 2);
        due("a JOB", z.server(0, 10), 1);
        due("TICKS", z.count(1), 5);
    }

    private static void textSaidOnceMore() {
        told("in THE TEXT numbers have just as many digits as told;");
        GreedyServers x = with(HARD, 0, 1, 1);
        refused(x, "a digit less of TICKS", () -> sayAgain(x, "t5;"), -1002);
        refused(x, "a digit more of TICKS", () -> sayAgain(x, "t005;"), -1003);
        refused(x, "a digit less of WORK", () -> sayAgain(x, "j03;"), -1003);
        refused(x, "a digit more of WORK", () -> sayAgain(x, "j0013;"), -1004);
        refused(x, "a digit less of BUDGET", () -> sayAgain(x, "s00110;"), -1006);
        refused(x, "a digit more of PERIOD", () -> sayAgain(x, "s0001010;"), -1007);

        told("STATEMENTS are tried one behind the other on all as those ahead of them made it, the first that can't be"
            + " done so is kind 2.");
        GreedyServers y = new GreedyServers();
        refused(y, "ahead of its SERVER", () -> sayAgain(y, "j013;s000101;"), -2000);
        due("behind its SERVER", say(y, "s000101;j013;"), 2);
        refused(y, "no room", () -> sayAgain(y, "j013;j013;j013;j013;t01;"), -2015);
        due("room by a JOB that is DONE", say(y, "j013;j013;j013;t01;j013;"), 5);
        goTo(y, 9990);
        refused(y, "TICKS together", () -> sayAgain(y, "t05;t04;t01;"), -2008);
        due("TICKS up to 9999", say(y, "t05;t04;"), 2);

        told("The ROW of a text stays on its SHELF;");
        GreedyServers z = new GreedyServers();
        say(z, "s000110;");
        due("its first byte", z.element(0, 0), 's');
        due("its last byte", z.element(0, 7), ';');
        due("its size", thrown(z, 0, 8), 2);
        due("it comes again", z.text(0), 1);
        due("two SERVERS", z.count(0), 2);
        refused(z, "it stays with a FAULT", () -> {
            z.put(0, 1, '6');
            int answer = z.text(0);
            z.put(0, 1, '0');
            return answer;
        }, -2000);
    }

    // ---- II: in mind

    private static void inMind() {
        told("In mind (TICK no matter): n TICKS on (0 .. 99):");
        GreedyServers x = with(HARD, 0, 1, 1);
        goTo(x, 9999);
        x.sends(0, 9, NO_LOCK);
        String before = seen(x);
        due("DONE", x.then(0, 99, 5), 1);
        due("LATE", x.then(0, 99, 4), 8);
        due("chosen", x.runs(9, 0), 0);
        due("QUIET", x.quiet(0), 9);
        due("MISSES", x.misses(0), 2);
        due("RAN", x.ran(0, 99, 0), 9);
        due("NEEDS", x.needs(0, 60), -4);
        due("ALONE", x.alone(0, 60), 8);
        due("KIND BEST", x.kindBest(0, 60, 1), 8);
        due("LEAST LOAD", x.load(99), 0);
        due("BREAKS", x.breaks(0, 2, 2, 1), 2);
        due("nothing is another", seen(x).equals(before) ? 1 : 0, 1);
        thenBounds();
    }

    private static void thenBounds() {
        // A RESTER that runs in TICKS 0, 60 and 120: from TICK 22 on the 99th is TICK 120.
        GreedyServers x = said("s200160;j033;t22;");
        refused(x, "n 100", () -> x.then(0, 100, 0), -1);
        refused(x, "n -1", () -> x.then(0, -1, 0), -1);
        refused(x, "n far off", () -> x.then(0, MAX, 0), -1);
        refused(x, "n far below", () -> x.then(0, MIN, 0), -1);
        due("n 0", x.then(0, 0, 0), 2);
        due("n 98", x.then(0, 98, 0), 1);
        due("n 99", x.then(0, 99, 0), 0);
        due("n 99, its DONE", x.then(0, 99, 5), 1);
        due("n 98, its STATE", x.then(0, 98, 3), RESTING);
        due("n 99, its STATE", x.then(0, 99, 3), LINGERING);
        due("n 0, its LEFT", x.then(0, 0, 1), x.server(0, 5));
        due("n 0, its DEADLINE", x.then(0, 0, 2), 60);
        due("n 0, its STATE", x.then(0, 0, 3), RESTING);
        due("n 0, its LATE", x.then(0, 0, 4), 0);
        due("n 0, its DONE", x.then(0, 0, 5), 0);

        told("WORK of a SERVER's JOBS together; its LEFT (10000 added), DEADLINE, STATE, LATE, DONE;");
        due("WORK of none", said("s000160;").then(0, 0, 0), 0);
        due("WORK of four", said("s000160;j093;j093;j093;j093;").then(0, 0, 0), 36);
        due("LEFT below 0", said("s400205;j033;").then(0, 3, 1), 9994);
        due("LEFT 0", said("s000160;").then(0, 99, 1), 10000);
    }

    private static void whoIsChosen() {
        told("who is chosen in the n-th (n above 0; -4 nobody), whose JOB runs in it (-4).");
        GreedyServers x = said("s200160;j033;t22;");
        refused(x, "n 0", () -> x.runs(0, 0), -1);
        refused(x, "n 0", () -> x.runs(0, 1), -1);
        refused(x, "n 100", () -> x.runs(100, 0), -1);
        refused(x, "n below", () -> x.runs(MIN, 1), -1);
        due("nobody in the first", x.runs(1, 0), -4);
        due("nobody in the 98th", x.runs(98, 0), -4);
        due("nobody's in the 98th", x.runs(98, 1), -4);
        due("in the 99th", x.runs(99, 0), 0);
        due("whose in the 99th", x.runs(99, 1), 0);
        due("without SERVERS", new GreedyServers().runs(1, 0), -4);
        due("without SERVERS", new GreedyServers().runs(99, 1), -4);

        told("RAN: how many of the next n TICKS (0 .. 99) JOBS of one run; PAID: by how many of these it is chosen.");
        due("in 0", x.ran(0, 0, 0), 0);
        due("in 0", x.ran(0, 0, 1), 0);
        due("in 98", x.ran(0, 98, 0), 1);
        due("in 99", x.ran(0, 99, 0), 2);
        due("chosen in 98", x.ran(0, 98, 1), 1);
        due("chosen in 99", x.ran(0, 99, 1), 2);
        for (int n : new int[] {100, -1, MIN, MAX}) {
            refused(x, "n " + n, () -> x.ran(0, n, 0), -1);
            refused(x, "n " + n, () -> x.ran(0, n, 1), -1);
        }
        GreedyServers y = said("s200110;s000530;j031;j191;");
        due("its JOB, on another's budget, too", y.ran(0, 99, 0), 3);
        due("it alone is chosen", y.ran(0, 99, 1), 1);
        due("its own JOB", y.ran(1, 99, 0), 9);
        due("chosen, for another's JOB, too", y.ran(1, 99, 1), 11);
    }

    private static void quietAndFree() {
        told("QUIET: behind how many TICKS (0 .. 99) no SERVER has JOBS first; -4.");
        due("without SERVERS", new GreedyServers().quiet(0), 0);
        due("without JOBS", said("s000160;").quiet(0), 0);
        due("behind one", said("s000160;j013;").quiet(0), 1);
        due("behind 99", said("s200160;j033;t22;").quiet(0), 99);
        due("behind 100", said("s200160;j033;t21;").quiet(0), -4);
        due("of all", said("s000160;s000160;j013;j113;").quiet(0), 2);

        told("FREE: behind how many (0 .. 99) all are IDLE first; -4.");
        due("without SERVERS", new GreedyServers().quiet(1), 0);
        due("at first", said("s000160;").quiet(1), 0);
        due("LINGERING is not IDLE", said("s000130;j013;t01;").quiet(1), 30);
        // Its last JOB ends in TICK 60 with LEFT 0 and DEADLINE 120: IDLE in TICK 120.
        due("behind 99", said("s200160;j023;t22;").quiet(1), 99);
        due("behind 100", said("s200160;j023;t21;").quiet(1), -4);
        due("QUIET is another", said("s200160;j023;t22;").quiet(0), 39);
    }

    /**
     * 0 runs in TICKS 0 .. 7 and has DEADLINE 540 then, its JOB FIRST DEADLINE 60 and WORK 1; from TICK 8 on three
     * others of PERIOD 60 have WORK to do, whose DEADLINES stay below 540 (BUDGET 5: 60 more every five TICKS) and
     * whose JOBS are through in time.
     */
    private static GreedyServers lateFarOn(int work) {
        GreedyServers x = said("s000160;s000560;s000560;s000560;j093;t08;");
        for (int i = 0; work > 0; i++) {
            x.sends(1 + i % 3, Math.min(9, work), NO_LOCK);
            work -= 9;
        }
        return x;
    }

    private static void misses() {
        told("MISSES: behind how many (0 .. 99) one is LATE more than now first; -4; FIRST who is, of several the"
            + " least; -4.");
        GreedyServers x = lateFarOn(98);
        due("behind 99", x.misses(0), 99);
        due("who is, behind 99", x.misses(-1), 0);
        due("the others never", x.misses(1), -4);
        x = lateFarOn(99);
        due("behind 100", x.misses(0), -4);
        due("who is, behind 100", x.misses(-1), -4);
        x = said("s000101;j093;t01;");
        due("behind 1", x.misses(0), 1);
        due("who is, behind 1", x.misses(-1), 0);
        x.ticks(4);
        due("LATE now does not count", x.server(0, 9), 4);
        due("behind 1 again", x.misses(0), 1);
        x.ticks(4);
        due("LATE, but no more", x.misses(0), -4);
        due("nobody more", x.misses(-1), -4);
        due("without SERVERS", new GreedyServers().misses(-1), -4);
        // Whoever is first, not the least of all that are: 1 is LATE in TICK 2 (DEADLINES 2, 4, 6, 8 till then), 0 in
        // TICK 10, since it has TICKS 4 .. 12.
        x = said("s000910;s000102;j093;j163;");
        due("0, behind", x.misses(0), 11);
        due("1, behind", x.misses(1), 3);
        due("FIRST", x.misses(-1), 1);
    }

    // ---- II: admission, what would do

    private static void admission() {
        told("ADMITTED: whether SHARES of all SERVERS and a new one's (BUDGET, PERIOD) are 60 or less together (1, 0).");
        due("60 alone", new GreedyServers().admitted(1, 1), 1);
        due("30 in 30 alone", new GreedyServers().admitted(30, 30), 1);
        GreedyServers x = said("s003060;s002960;");
        due("59 and 1", x.admitted(1, 60), 1);
        due("59 and 2", x.admitted(2, 60), 0);
        due("60 and 1", said("s000101;").admitted(1, 60), 0);
        due("six of 1 and 54", said(times(6, "s000160;")).admitted(27, 30), 1);
        due("six of 1 and 56", said(times(6, "s000160;")).admitted(28, 30), 0);

        told("DEMAND in n TICKS (1 .. 99) of all SERVERS, as if each began anew: BUDGETS times (n by PERIOD, cut),"
            + " together; FITS: whether it is n or less for all of 1 .. n.");
        GreedyServers y = said("s000310;");
        long[][] demands = {{1, 0}, {9, 0}, {10, 3}, {19, 3}, {20, 6}, {99, 27}};
        for (long[] d : demands) {
            due("DEMAND in " + d[0], y.demand((int) d[0], 0), d[1]);
        }
        for (int n : new int[] {0, 100, -1, MIN, MAX}) {
            refused(y, "n " + n, () -> y.demand(n, 0), -1);
            refused(y, "n " + n, () -> y.demand(n, 1), -1);
        }
        say(y, "j093;t05;");
        due("as if it began anew", y.demand(10, 0), 3);
        due("of none", new GreedyServers().demand(99, 0), 0);
        due("none FITS", new GreedyServers().demand(99, 1), 1);
        due("just n of all n", said("s000101;").demand(99, 1), 1);
        due("2 in 1", said("s000101;s000101;").demand(1, 1), 0);
        GreedyServers z = said("s000101;s000160;");
        due("59 in 59", z.demand(59, 1), 1);
        due("61 in 60", z.demand(60, 1), 0);
        // 9 by 10 and 2 by 12: 20 in 20 TICKS, 31 in 30 and in 31.
        GreedyServers w = said("s000910;s000212;");
        due("20 in 20", w.demand(20, 0), 20);
        due("20 in 20 FITS", w.demand(20, 1), 1);
        due("in 29", w.demand(29, 1), 1);
        due("31 in 30", w.demand(30, 1), 0);
        due("31 in 31", w.demand(31, 0), 31);
        due("but 31 in 30 before", w.demand(31, 1), 0);
    }

    /** Two have TICKS 0 .. 59 with DEADLINE 60; 2 has one WORK to do by 60, too: it is LATE in TICK 60. */
    private static GreedyServers lateInTick60(String behind) {
        return said("s003060;s003060;s000160;s000101;j093;j093;j093;j033;", "j193;j193;j193;j133;j213;" + behind);
    }

    private static void needs() {
        told("NEEDS: the least BUDGET (1 .. 30, not above PERIOD) of one now (LEFT as it is) with which it is not LATE"
            + " more in n TICKS (0 .. 60); -4.");
        // 1 has 60 LEFT by DEADLINE 30 at TICK 26 and WORK 4, 9, 9, 9; behind TICK 26 it has its BUDGET by DEADLINE 60,
        // and WORK 30 yet, till TICK 56. With less it has DEADLINE 90 sooner, 2 (65) runs 25 TICKS, and what is left
        // of 1's JOB, of FIRST DEADLINE 60 at most, ends in TICK 60 or later: in TICK 81 with BUDGET 29.
        GreedyServers x = said("s002630;s000130;s003060;j093;j093;j083;j143;j193;j193;j193;t05;j293;j293;j273;t21;");
        due("the most", x.needs(1, 60), 30);
        due("its BUDGET stays", x.server(1, 2), 1);
        due("the least", said("s003060;j093;").needs(0, 60), 1);
        due("of one without JOBS", said("s003060;").needs(0, 60), 1);
        // JOBS of WORK 2 and 1 by 2 and 4, and a rival with WORK 2 by 5: with BUDGET 1 it has TICKS 2 and 3. With WORK
        // 2 and 2 it would take BUDGET 3 to be ahead of it in TICK 3, too.
        due("as much as PERIOD", said("s000102;s000505;j023;j013;j123;").needs(0, 10), 2);
        due("not above PERIOD", said("s000102;s000505;j023;j023;j123;").needs(0, 10), -4);
        // A RESTER with 60 LEFT RESTS behind one TICK with any BUDGET, and is LATE in TICK 10.
        GreedyServers y = said("s200110;j043;");
        due("10 TICKS", y.needs(0, 10), 1);
        due("11 TICKS: LEFT is as it is", y.needs(0, 11), -4);
        GreedyServers z = said("s200160;j023;t01;");
        due("LATE in the 60th", z.needs(0, 60), -4);
        due("59 TICKS", z.needs(0, 59), 1);
        due("0 TICKS", said("s000101;j093;t01;").needs(0, 0), 1);
        due("1 TICK", said("s000101;j093;t01;").needs(0, 1), -4);
        for (int n : new int[] {61, -1, MIN, MAX}) {
            refused(z, "n " + n, () -> z.needs(0, n), -1);
        }
    }

    private static void aloneAndKindBest() {
        told("ALONE: LATE more of one in n TICKS (0 .. 60), were all other SERVERS IDLE without JOBS now.");
        GreedyServers x = said("s200160;j023;t01;");
        due("LATE in the 60th", x.alone(0, 60), 1);
        due("59 TICKS", x.alone(0, 59), 0);
        due("0 TICKS", said("s000101;j093;t01;").alone(0, 0), 0);
        due("1 TICK", said("s000101;j093;t01;").alone(0, 1), 1);
        GreedyServers y = lateInTick60("t01;");
        due("LATE with the others", y.then(2, 60, 4), 1);
        due("not without them", y.alone(2, 60), 0);
        due("LATE now is no more", said("s000101;j093;t09;").alone(0, 60), 0);
        // 0 has TICKS 0 and 1 (DEADLINES 1, 2, the least number), so 1's JOB runs in TICK 2, its FIRST DEADLINE.
        due("LATE with the least one", said("s000101;s000102;j093;j113;").then(1, 60, 4), 1);
        due("not without the least one", said("s000101;s000102;j093;j113;").alone(1, 60), 0);
        for (int n : new int[] {61, -1, MIN, MAX}) {
            refused(x, "n " + n, () -> x.alone(0, n), -1);
        }

        told("KIND BEST for one: the KIND with which LATE of all is least behind n TICKS (0 .. 60), of several the least;"
            + " that, together.");
        GreedyServers z = said("s500101;s200160;j123;t01;");
        due("LATE of another in the 60th", z.kindBest(0, 60, 1), 1);
        due("59 TICKS", z.kindBest(0, 59, 1), 0);
        due("all alike: the least", z.kindBest(0, 60, 0), HARD);
        due("0 TICKS", z.kindBest(0, 0, 0), HARD);
        due("0 TICKS", z.kindBest(0, 0, 1), 0);
        due("without JOBS", said("s500101;").kindBest(0, 60, 0), HARD);
        for (int n : new int[] {61, -1, MIN, MAX}) {
            refused(z, "n " + n, () -> z.kindBest(0, n, 0), -1);
        }
        // 0 has WORK 5 by 10, 1 has DEADLINE 15 and WORK 9. HARD: DEADLINE 20 behind one TICK, LATE in 10 .. 13.
        // GREEDY, SLACK, MILD: behind two, LATE in 11 .. 13. RESTER, STRICT: LATE in 10, 20, 30, 40.
        GreedyServers w = said("s000110;s000915;j053;j193;");
        due("LATE", w.kindBest(0, 60, 1), 3);
        due("of GREEDY, SLACK, MILD the least", w.kindBest(0, 60, 0), GREEDY);
    }

    private static void sendAndLoad() {
        told("SEND: the SERVER without whose JOBS (it is IDLE then) LATE of all others together is least behind n TICKS"
            + " (0 .. 60), less than with them, of several the least; -4.");
        GreedyServers x = lateInTick60("t01;");
        due("0 or 1, the least", x.send(60), 0);
        due("59 TICKS: nobody is LATE", x.send(59), -4);
        due("0 TICKS", x.send(0), -4);
        // 0 has WORK 4 by 6, behind 2 and 3 of the others: LATE by 3. Without 1's JOB by 1, without 2's in time.
        due("the least, not the first", said("s000406;s000505;s000505;j043;j123;j233;").send(60), 2);
        due("without SERVERS", new GreedyServers().send(60), -4);
        due("LATE by itself: no others", said("s000101;j093;").send(60), -4);
        due("LATE whoever goes", said("s000101;s000160;j093;").send(60), -4);
        for (int n : new int[] {61, -1, MIN, MAX}) {
            refused(x, "n " + n, () -> x.send(n), -1);
        }

        told("LEAST LOAD: the least LOAD ahead of the next TICKS, n of them (1 .. 99; the first as it is now).");
        // IDLE in TICK 120: LOAD is 0 ahead of TICK 121, the 99th from TICK 23 on.
        GreedyServers y = said("s200160;j023;t22;");
        due("ahead of TICK 120", y.load(99), 1);
        y.ticks(1);
        due("ahead of TICK 121", y.load(99), 0);
        due("ahead of TICK 120", y.load(98), 1);
        GreedyServers z = said("s000160;s003060;j013;j113;t02;");
        due("now", z.load(0), 31);
        due("the first as it is now", z.load(1), 31);
        // 1 (1740 of 1800 by DEADLINE 60) is IDLE in TICK 2: it is ACTIVE ahead of it.
        due("ahead of two", z.load(2), 1);
        due("without SERVERS", new GreedyServers().load(99), 0);
        for (int n : new int[] {100, -1, MIN, MAX}) {
            refused(z, "n " + n, () -> z.load(n), -1);
        }
    }

    // ---- II: who ran, two, odds, bits

    private static void whoRan() {
        told("WHO RAN: a ROW tells whose JOB ran in the next TICKS (6 nobody's; the least number of the ROW's kind is"
            + " skipped): KINDS (bits) of one by which all of it is so; FIGURES (bits 0 .. 9).");
        GreedyServers x = said("s200160;j033;t21;");
        x.row(1, 0, 0);
        due("nothing told: all KINDS", x.whoRan(1, 0, 0), 63);
        due("nothing told: all FIGURES", x.whoRan(1, 0, 1), 1023);
        // The 100th TICK is 120, in which a RESTER's last WORK is done; others went on in TICK 61.
        x.row(1, 0, 100);
        for (int i = 0; i < 99; i++) {
            x.put(1, i, -128);
        }
        due("the 100th of a full ROW: 0's", x.whoRan(1, 0, 0), 1 << RESTER | 1 << STRICT);
        x.put(1, 99, 6);
        due("the 100th of a full ROW: nobody's", x.whoRan(1, 0, 0), 63 - (1 << RESTER | 1 << STRICT));
        x.put(1, 99, -128);
        due("all skipped", x.whoRan(1, 0, 0), 63);
        for (int sort = 0; sort < 3; sort++) {
            tell(x, 1, sort, 6);
            due("nobody's, kind " + sort, x.whoRan(1, 0, 0), 63);
            for (int other : new int[] {0, 5, 7, -4, -1}) {
                tell(x, 1, sort, other);
                due("not " + other + "'s, kind " + sort, x.whoRan(1, 0, 0), 0);
            }
            tell(x, 1, sort, sort == 0 ? -128 : sort == 1 ? -32768 : MIN);
            due("skipped, kind " + sort, x.whoRan(1, 0, 0), 63);
            tell(x, 1, sort, sort == 0 ? -127 : sort == 1 ? -32767 : MIN + 1);
            due("one above it is not, kind " + sort, x.whoRan(1, 0, 1), 0);
            tell(x, 1, sort, sort == 0 ? 127 : sort == 1 ? 32767 : MAX);
            due("nor the greatest, kind " + sort, x.whoRan(1, 0, 1), 0);
        }
        tell(x, 1, 1, -128);
        due("the bytes' least is not that of shorts", x.whoRan(1, 0, 0), 0);
        tell(x, 1, 2, -32768);
        due("the shorts' least is not that of ints", x.whoRan(1, 0, 0), 0);
        // SLACK 0 of SHARE 12 pays 30 less FIGURE of 60; 1 (20) runs as 0 has DEADLINE 25: with FIGURE 0 behind 8 TICKS
        // (a REFILL every 2), with FIGURE 9 behind 12 (every 3), with 1 .. 8 behind 9 .. 11.
        GreedyServers z = said("s350105;s000620;j093;j093;j193;");
        tell(z, 1, 0, 0, 0, 0, 0, 0, 0, 0, 0, 1);
        due("the least FIGURE", z.whoRan(1, 0, 1), 1);
        tell(z, 1, 0, 0, 0, 0, 0, 0, 0, 0, 0, 0, 0, 0, 0, 1);
        due("the greatest FIGURE", z.whoRan(1, 0, 1), 1 << 9);
        // GREEDY thought to be a RESTER: 61 LEFT less 60 is 1, which is not 0 or less; 60 LEFT less 60 is.
        GreedyServers y = said("s100210;s003060;s001760;j093;j193;j213;t01;");
        due("LEFT 61", y.server(0, 5), 10061);
        tell(y, 1, 0, 0, 0, 1);
        due("RESTING behind two TICKS", y.whoRan(1, 0, 0) & 1 << RESTER, 1 << RESTER);
        tell(y, 1, 0, 0, 1);
        due("not behind one", y.whoRan(1, 0, 0) & 1 << RESTER, 0);
    }

    private static void two() {
        told("TWO SERVERS, to each a JOB (WORK 5, no LOCK) COMES now (1) or not (0), the one's ahead: each has 4 for"
            + " sending it, less LATE more behind n TICKS (1 .. 60): the first pair (10 the one's and the other's) by"
            + " which neither has more by another choice alone; -4.");
        // 2's JOB is LATE in TICK 60 and the one sent in TICKS 61 .. 64 of n 60: 4 less 5 is no more than 0 less 1.
        // 3's JOB is LATE in TICKS 6 .. 9: 4 less 4.
        GreedyServers x = lateInTick60("t05;");
        due("60 TICKS: neither has more", x.two(2, 3, 60), 0);
        due("59 TICKS: 4 less 4", x.two(2, 3, 59), 10);
        due("59 TICKS, the other way round", x.two(3, 2, 59), 1);
        due("1 TICK", x.two(2, 3, 1), 11);
        for (int n : new int[] {0, 61, -1, MIN, MAX}) {
            refused(x, "n " + n, () -> x.two(2, 3, n), -1);
        }
        // (0, 0): -8 and 0. (0, 1): 1 runs in TICKS 9 .. 13, LATE in 12, 13: -8 and 2. (1, 1): 0 goes on till it has
        // DEADLINE 13, 1 has TICKS 12 .. 16: 4 less 11 and 4 less 5. (1, 0): 4 less 13 and 0.
        due("none", said("s000101;s050512;j092;").two(0, 1, 17), -4);
        due("as much by both choices: the first", said("s000101;s000101;").two(0, 1, 60), 0);
        // LATE of WORK 5 in TICKS 2, 3, 4: 4 less 3 is more than 0.
        due("WORK 5 of the one", said("s000202;s003060;").two(0, 1, 60), 11);
        due("WORK 5 of the other", said("s000202;s003060;").two(1, 0, 60), 11);

        told(22, "-1 (one twice), -2 (either has 4 JOBS).");
        GreedyServers y = said("s000160;s000160;j013;j013;j013;j113;j113;j113;");
        due("three each", y.two(0, 1, 60) >= 0 ? 1 : 0, 1);
        refused(y, "one twice", () -> y.two(1, 1, 60), -1);
        refused(y, "no such one", () -> y.two(2, 1, 60), -1);
        refused(y, "no such other", () -> y.two(1, 2, 60), -1);
        refused(y, "no such one", () -> y.two(-1, 0, 60), -1);
        y.sends(0, 1, NO_LOCK);
        refused(y, "the one has 4", () -> y.two(0, 1, 60), -2);
        refused(y, "the other has 4", () -> y.two(1, 0, 60), -2);
        refused(y, "one twice ahead of 4", () -> y.two(0, 0, 60), -1);
        refused(y, "n ahead of 4", () -> y.two(0, 1, 61), -1);
    }

    private static void fraction(String what, GreedyServers x, int n, int t, long above, long below) {
        due(what + ", above", x.breaks(0, n, t, 0), above);
        due(what + ", below", x.breaks(0, n, t, 1), below);
    }

    private static void breaks() {
        told("BREAKS: in each of n TICKS (0 .. 7), by itself, with odds 1 in t (2 .. 20) no JOB runs (all else goes on;"
            + " nobody is chosen, nobody PAYS): how likely one is LATE more behind these: a fraction in least terms.");
        // LATE in any TICK that is whole.
        GreedyServers x = said("s000101;j093;t01;");
        fraction("no TICKS", x, 0, 2, 0, 1);
        fraction("no TICKS", x, 0, 20, 0, 1);
        fraction("one, 1 in 2", x, 1, 2, 1, 2);
        fraction("one, 1 in 20", x, 1, 20, 19, 20);
        fraction("seven, 1 in 2", x, 7, 2, 127, 128);
        fraction("seven, 1 in 20", x, 7, 20, 1279999999L, 1280000000L);
        fraction("never", said("s003060;j093;"), 7, 20, 0, 1);
        // LATE if the second is whole: 2 by 4, 12 by 16, 380 by 400.
        fraction("in least terms, 1 in 2", said("s000101;j023;"), 2, 2, 1, 2);
        fraction("in least terms, 1 in 4", said("s000101;j023;"), 2, 4, 3, 4);
        fraction("in least terms, 1 in 20", said("s000101;j023;"), 2, 20, 19, 20);
        // A RESTER with WORK 1 by 3: LATE if the first three break and the fourth is whole. If it paid in a TICK that
        // breaks, it would REST till TICK 3.
        fraction("three of four, 1 in 2", said("s200103;j013;"), 4, 2, 1, 16);
        fraction("three of four, 1 in 20", said("s200103;j013;"), 4, 20, 19, 160000);
        fraction("three of three", said("s200103;j013;"), 3, 2, 0, 1);
        // HARD 0 with WORK 2 by 3, ahead of 1 (4) while LEFT lasts: LATE if two or three of the first three break and
        // the fourth is whole. If it paid in a TICK that breaks, it would have DEADLINE 6 sooner.
        fraction("two of three, 1 in 2", said("s000203;s000404;j023;j193;"), 4, 2, 1, 4);
        // 1 and 19 times 3 of 8000, and 19 of 20: 58 times 19 by 160000.
        fraction("two of three, 1 in 20", said("s000203;s000404;j023;j193;"), 4, 20, 551, 80000);
        for (int n : new int[] {8, -1, MIN, MAX}) {
            refused(x, "n " + n, () -> x.breaks(0, n, 2, 0), REFUSED);
        }
        for (int t : new int[] {1, 21, 0, -1, MIN, MAX}) {
            refused(x, "t " + t, () -> x.breaks(0, 1, t, 0), REFUSED);
        }
        for (int part : new int[] {2, -1, MIN, MAX}) {
            refused(x, "part " + part, () -> x.breaks(0, 1, 2, part), REFUSED);
        }
    }

    private static void shares() {
        told("SHARE of LOAD of one: its SHARE, if ACTIVE, by LOAD, likewise (0 by 1, if LOAD is 0).");
        GreedyServers x = said("s000160;s003060;s000101;j013;j113;j213;");
        due("60 by 91", x.share(2, 0), 60);
        due("60 by 91", x.share(2, 1), 91);
        due("1 by 91", x.share(0, 0), 1);
        due("1 by 91", x.share(0, 1), 91);
        x.drops(2);
        due("30 by 31", x.share(1, 0), 30);
        due("30 by 31", x.share(1, 1), 31);
        due("IDLE: 0 by 31", x.share(2, 0), 0);
        due("IDLE: in least terms", x.share(2, 1), 1);
        x.drops(1);
        due("1 by 1", x.share(0, 0), 1);
        due("1 by 1", x.share(0, 1), 1);
        x.drops(0);
        due("LOAD 0", x.share(0, 0), 0);
        due("LOAD 0", x.share(0, 1), 1);
        due("LOAD 360", said(times(6, "s000101;"), "j013;j113;j213;j313;j413;j513;").share(0, 1), 6);
        due("LINGERING", said("s000430;j013;t01;").share(0, 0), 1);
        due("RESTING", said("s200130;j023;t01;").share(0, 0), 1);
        for (int part : new int[] {2, -1, MIN, MAX}) {
            refused(x, "part " + part, () -> x.share(0, part), REFUSED);
        }
    }

    private static void bitsAndWide() {
        told("BITS: the bits (as an int) of the float nearest to BUDGET by PERIOD of one (of two as near the one whose"
            + " last bit is 0);");
        due("the least: 1 by 60", with(HARD, 0, 1, 60).bits(0), 0x3c888889);
        due("the greatest: 1", with(HARD, 0, 1, 1).bits(0), 0x3f800000);
        due("1 of 30 by 30", with(HARD, 0, 30, 30).bits(0), 0x3f800000);
        due("a half", with(HARD, 0, 30, 60).bits(0), 0x3f000000);
        due("a quarter", with(HARD, 0, 1, 4).bits(0), 0x3e800000);
        due("a third, to the one above", with(HARD, 0, 1, 3).bits(0), 0x3eaaaaab);
        due("7 by 10, to the one below", with(HARD, 0, 7, 10).bits(0), 0x3f333333);
        due("9 by 10, to the one below", with(HARD, 0, 9, 10).bits(0), 0x3f666666);
        due("3 by 5, to the one above", with(HARD, 0, 3, 5).bits(0), 0x3f19999a);

        told("WIDE: the bits (as a long) of the double nearest to LEFT by 60 of one likewise (0 for 0).");
        due("0", with(HARD, 0, 1, 60).wide(0), 0L);
        due("0 that was more", said("s000110;j013;t01;").wide(0), 0L);
        due("1", said("s000160;j013;").wide(0), 0x3ff0000000000000L);
        due("the greatest: 30", said("s003060;j013;").wide(0), 0x403e000000000000L);
        due("LEFT 1", withOneLeft(9).wide(0), 0x3f91111111111111L);
        due("LEFT -6", said("s400205;j033;t03;").wide(0), 0xbfb999999999999aL);
        // MILD of SHARE 1 pays half of 61, then half of 62: 60 less 30 less 31.
        GreedyServers x = said("s400160;s000160;j023;t01;j113;t01;");
        due("LEFT", x.server(0, 5), 9999);
        due("LEFT -1", x.wide(0), 0xbf91111111111111L);
        GreedyServers y = withOneLeft(2);
        y.sends(3, 9, NO_LOCK);
        y.ticks(1);
        due("LEFT", y.server(0, 5), 9941);
        due("LEFT -59", y.wide(0), Double.doubleToLongBits(-59 / 60.0));
    }

    // ---- II: told runs, days

    private static void forged() {
        told("FORGED: a ROW tells DEADLINES of SERVERS 0, 1, ..: the first that is not so (no such one, too); -4.");
        GreedyServers x = said(times(6, "s000160;"), "t09;j013;j113;j213;j313;j413;j513;");
        x.row(1, 0, 0);
        due("nothing told", x.forged(1), -4);
        tell(x, 1, 0, 69);
        due("one told", x.forged(1), -4);
        tell(x, 1, 0, 69, 69, 69, 69, 69, 69);
        due("all told", x.forged(1), -4);
        tell(x, 1, 0, 69, 69, 69, 69, 69, 68);
        due("the last is not so", x.forged(1), 5);
        tell(x, 1, 0, 70, 69, 69, 69, 69, 68);
        due("the first is not so", x.forged(1), 0);
        tell(x, 1, 0, -128, 69);
        due("nothing is skipped", x.forged(1), 0);
        tell(x, 1, 0, 69, 69, 69, 69, 69, 69, 69);
        due("no such one", x.forged(1), 6);
        x.row(1, 2, 100);
        due("a full ROW", x.forged(1), 0);
        GreedyServers y = new GreedyServers();
        y.row(1, 2, 1);
        due("without SERVERS", y.forged(1), 0);
        y.row(1, 2, 0);
        due("without SERVERS, nothing told", y.forged(1), -4);
        GreedyServers z = said("s000160;");
        tell(z, 1, 1, 0);
        due("DEADLINE 0 at first", z.forged(1), -4);
        goTo(z, 200);
        z.sends(0, 1, NO_LOCK);
        tell(z, 1, 0, 260);
        due("260 is none of bytes", z.forged(1), 0);
        tell(z, 1, 1, 260);
        due("260 of shorts", z.forged(1), -4);
        tell(z, 1, 1, 260 + 65536);
        due("its lowest bits", z.forged(1), -4);
        tell(z, 1, 2, 260 + 65536);
        due("of ints", z.forged(1), 0);
    }

    private static void judged() {
        told("JUDGED: a ROW tells LOAD behind 0, 1, .. TICKS (skipped likewise): the first that is not so; -4.");
        // LOAD is 1 till TICK 119 is gone, 0 behind TICK 120: behind 99 TICKS from TICK 22 on.
        GreedyServers x = said("s200160;j023;t22;");
        x.row(1, 0, 0);
        due("nothing told", x.judge(1), -4);
        tell(x, 1, 0, 1);
        due("as it is now", x.judge(1), -4);
        tell(x, 1, 0, 0);
        due("the first", x.judge(1), 0);
        x.row(1, 0, 100);
        for (int i = 0; i < 99; i++) {
            x.put(1, i, 1);
        }
        due("a full ROW", x.judge(1), -4);
        x.put(1, 99, 1);
        due("the last of a full ROW", x.judge(1), 99);
        x.put(1, 99, -128);
        due("the last is skipped", x.judge(1), -4);
        x.put(1, 98, 0);
        due("the one ahead of it", x.judge(1), 98);
        for (int sort = 0; sort < 3; sort++) {
            tell(x, 1, sort, sort == 0 ? -128 : sort == 1 ? -32768 : MIN, 2);
            due("skipped, kind " + sort, x.judge(1), 1);
            tell(x, 1, sort, sort == 0 ? -127 : sort == 1 ? -32767 : MIN + 1, 2);
            due("one above it is not, kind " + sort, x.judge(1), 0);
        }
        tell(x, 1, 1, -128);
        due("the bytes' least is not that of shorts", x.judge(1), 0);
        tell(x, 1, 2, -32768);
        due("the shorts' least is not that of ints", x.judge(1), 0);
        GreedyServers y = new GreedyServers();
        tell(y, 1, 2, 0, 0);
        due("without SERVERS", y.judge(1), -4);
        tell(y, 1, 2, 0, 1);
        due("without SERVERS", y.judge(1), 1);
    }

    private static int noRoomInDays = 0;
    private static long lot = 0;

    private static int drawn(int below) {
        lot = (lot * 1103515245L + 12345L) & 0xffffffffL;
        return (int) ((lot % 0x80000000L) / 65536 % below);
    }

    /** What days() tells, by sends() and ticks() and THE IMAGE: LATE more and 1000 times DONE more. */
    private static int lived(GreedyServers x, int n, int z) {
        lot = z & 0xffffffffL;
        int more = 0;
        x.image();
        for (int day = 0; day < n; day++) {
            int before = x.count(5) + 1000 * doneOfAll(x);
            for (int i = 0; i < 6; i++) {
                int work = 1 + drawn(9);
                int lock = drawn(4);
                int s = drawn(x.count(0));
                noRoomInDays += x.sends(s, work, lock) == -2 ? 1 : 0;
                x.ticks(5);
            }
            more += x.count(5) + 1000 * doneOfAll(x) - before;
            x.restore();
        }
        return more;
    }

    private static int doneOfAll(GreedyServers x) {
        int done = 0;
        for (int s = 0; s < x.count(0); s++) {
            done += x.server(s, 10);
        }
        return done;
    }

    private static void days() {
        told("DAYS with a seed z: n (1 .. 20), each from now: 6 times a JOB of WORK 1 and a DRAW below 9, LOCK by a DRAW"
            + " below 4 (3 none), COMES to a SERVER by a DRAW below as many (if it has room), then 5 TICKS each time:"
            + " LATE more, together; DONE more, together (without SERVERS nothing is drawn: 0).");
        String[] worlds = {"s000110;", "s200103;s200102;s100303;", "s000101;j093;j090;t04;", "s200104;j090;j090;j090;t02;",
            "s200105;s000212;s120206;s370204;s400310;s500105;j090;j190;j291;j391;j492;j592;t07;"};
        int[] seeds = {0, 1, 2, 7, -1, 65535, 65536, 123456789, MIN, MIN + 1, MAX, MAX - 1};
        for (String world : worlds) {
            GreedyServers x = said(world);
            for (int z : seeds) {
                for (int n : new int[] {1, 2, 19, 20}) {
                    int want = lived(x, n, z);
                    due(world + " LATE in " + n + " by " + z, x.days(n, z, 0), want % 1000);
                    due(world + " DONE in " + n + " by " + z, x.days(n, z, 1), want / 1000);
                }
            }
        }
        due("some had no room", noRoomInDays > 0 ? 1 : 0, 1);
        GreedyServers x = said("s000110;");
        for (int n : new int[] {0, 21, -1, MIN, MAX}) {
            refused(x, "n " + n, () -> x.days(n, 1, 0), -1);
        }
        GreedyServers none = new GreedyServers();
        due("without SERVERS, LATE", none.days(20, MAX, 0), 0);
        due("without SERVERS, DONE", none.days(1, MIN, 1), 0);
        refused(none, "without SERVERS, n 21", () -> none.days(21, 1, 0), -1);
        refused(none, "without SERVERS, n 0", () -> none.days(0, 1, 0), -1);
        refused(none, "without SERVERS, what", () -> none.days(1, 1, 2), -1);
        // IDLE ones know of no TICK, so days at TICK 9999 are as those at TICK 0.
        GreedyServers late = said("s000110;s200103;");
        int want = lived(late, 20, 99);
        goTo(late, 9999);
        due("TICK no matter, LATE", late.days(20, 99, 0), want % 1000);
        due("TICK no matter, DONE", late.days(20, 99, 1), want / 1000);

        told("A DRAW below n: z becomes z times 1103515245 plus 12345 (an int); (z without its sign's bit over 65536,"
            + " cut) modulo n.");
        // The test's own DRAW, from seed 0 by hand: z is 12345, then 3554416254 as an int (less its sign's bit
        // 1406932606, over 65536 cut 21468).
        lot = 0;
        due("12345 over 65536 is 0", drawn(9), 0);
        due("z wraps around", drawn(21467), 1);
        due("z as it stands in an int", (int) lot, -740551042);
    }

    // ---- III: shelves, trays, the image

    private static void shelves() {
        told("SHELVES 0 .. 7 each hold nothing (at first), a SORT of SERVER, a ROW.");
        GreedyServers x = new GreedyServers();
        for (int d = 0; d < 8; d++) {
            due("nothing at first", x.cost(d), -11);
            due("a SORT", x.keep(d, 1, HARD, d), 0);
            due("its COST", x.cost(d), d);
            due("a ROW", x.row(d, 2, d + 1), 0);
            due("its last", x.put(d, d, 5 + d), 0);
        }
        for (int d = 0; d < 8; d++) {
            due("each its own", x.element(d, d), 5 + d);
            due("each its own size", x.put(d, d + 1, 0), -13);
            due("nothing again", x.keep(d, 0, 0, 0), 0);
            due("it holds nothing", x.cost(d), -11);
        }
        noSuchShelf();

        told("A ROW has a kind (0 bytes, 1 shorts, 2 ints) and 0 .. 100 elements, 0 at first; what is put in keeps its"
            + " lowest bits.");
        for (int sort = 0; sort < 3; sort++) {
            due("no elements", x.row(1, sort, 0), 0);
            due("no first", thrown(x, 1, 0), 2);
            due("100 elements", x.row(1, sort, 100), 0);
            due("the last, 0 at first", x.element(1, 99), 0);
            due("no 101st", thrown(x, 1, 100), 2);
            x.put(1, 0, 7);
            x.put(1, 99, 7);
            due("anew", x.row(1, sort, 100), 0);
            due("0 at first", x.element(1, 0) + x.element(1, 99), 0);
        }
        int[][] bytes = {{127, 127}, {128, -128}, {255, -1}, {256, 0}, {-128, -128}, {-129, 127}, {MIN, 0}, {MAX, -1}};
        keepsLowestBits(x, 0, bytes);
        int[][] shorts = {{32767, 32767}, {32768, -32768}, {65535, -1}, {65536, 0}, {-32768, -32768}, {-32769, 32767},
            {MIN, 0}, {MAX, -1}};
        keepsLowestBits(x, 1, shorts);
        int[][] ints = {{MIN, MIN}, {MAX, MAX}, {-1, -1}, {65536, 65536}};
        keepsLowestBits(x, 2, ints);
    }

    private static void keepsLowestBits(GreedyServers x, int sort, int[][] pairs) {
        x.row(1, sort, 1);
        for (int[] pair : pairs) {
            x.put(1, 0, pair[0]);
            due(pair[0] + " in a ROW of kind " + sort, x.element(1, 0), pair[1]);
        }
    }

    private static void noSuchShelf() {
        GreedyServers x = with(HARD, 0, 1, 1);
        x.row(0, 0, 4);
        x.tray(0, HARD, 1);
        for (int d : new int[] {-1, 8, MIN, MAX}) {
            refused(x, "text", () -> x.text(d), -1);
            refused(x, "comes", () -> x.comes(d, 1, 1), -1);
            refused(x, "whoRan", () -> x.whoRan(d, 0, 0), -1);
            refused(x, "forged", () -> x.forged(d), -1);
            refused(x, "judge", () -> x.judge(d), -1);
            refused(x, "lays", () -> x.lays(0, 0, d), -1);
            refused(x, "keep nothing", () -> x.keep(d, 0, 0, 0), -1);
            refused(x, "keep", () -> x.keep(d, 1, 0, 0), -1);
            refused(x, "row", () -> x.row(d, 0, 1), -1);
            refused(x, "put", () -> x.put(d, 0, 0), -1);
            refused(x, "element", () -> thrown(x, d, 0), 1);
            refused(x, "copy from", () -> x.copy(d, 0, 0, 0, 1), -1);
            refused(x, "copy to", () -> x.copy(0, 0, d, 0, 1), -1);
            refused(x, "cost", () -> x.cost(d), -1);
            refused(x, "toss", () -> x.toss(d), -1);
        }
    }

    private static void trays() {
        told("TRAYS 0 .. 3: rows of SORTS, each made for a KIND and those under it (none at first).");
        GreedyServers x = new GreedyServers();
        for (int t = 0; t < 4; t++) {
            due("none at first", x.laid(t, 0), -11);
            due("made", x.tray(t, t, t + 1), 1);
        }
        for (int t = 0; t < 4; t++) {
            due("each its own", x.laid(t, t), -11);
            due("each its own size", x.laid(t, t + 1), -13);
        }
        for (int t : new int[] {-1, 4, MIN, MAX}) {
            refused(x, "tray", () -> x.tray(t, 0, 1), -1);
            refused(x, "lays", () -> x.lays(t, 0, 0), -1);
            refused(x, "laid", () -> x.laid(t, 0), -1);
            refused(x, "like", () -> x.like(t, 0), -1);
            refused(x, "like another", () -> x.like(0, t), -1);
        }
        String[] madeFor = {"012345", "134", "25", "3", "4", "5"};
        for (int kind = 0; kind < 6; kind++) {
            x.tray(0, kind, 1);
            for (int sort = 0; sort < 6; sort++) {
                x.keep(1, 1, sort, 9);
                boolean fits = madeFor[kind].indexOf('0' + sort) >= 0;
                due(sort + " on a TRAY for " + kind, x.lays(0, 0, 1), fits ? 1 : -16);
            }
        }
    }

    private static void image() {
        told("THE IMAGE: all that there is, but SHELVES, TRAYS (and THE IMAGE); RESTORED all is as it was then.");
        // 0 RESTS and HOLDS LOCK 0, 1 was LATE by 7 and waits for LOCK 1, which 2 HOLDS; 3 is IDLE.
        GreedyServers x = said("s200120;s000102;s000430;s390320;j020;j023;j291;j011;t01;j193;t09;j212;t03;j211;");
        String servers = servers(x);
        int lateThen = x.then(1, 60, 4);
        due("TICK", x.image(), 13);
        x.drops(0);
        x.sends(3, 9, 2);
        x.ticks(60);
        add(x, MILD, 7, 1, 30);
        add(x, STRICT, 7, 1, 30);
        refused(x, "no seventh", () -> x.comes(7, 1, 1), -2);
        due("RESTORED", x.restore(), 13);
        due("all is as it was", servers(x).equals(servers) ? 1 : 0, 1);
        due("and goes on as it would have", x.then(1, 60, 4), lateThen);
        due("four SERVERS", x.count(0), 4);
        due("a new one is the fifth", add(x, HARD, 1, 2, 3), 4);
        due("and begins anew", x.server(4, 5) + x.server(4, 6) + x.server(4, 8) + x.server(4, 9), 10000);
        x.ticks(5);
        due("RESTORED again: THE IMAGE stays", x.restore(), 13);
        due("all is as it was again", servers(x).equals(servers) ? 1 : 0, 1);
        due("taken as it is", x.image(), 13);
        x.ticks(2);
        due("a later one in its place", x.image(), 15);
        x.ticks(2);
        due("RESTORED is the later one", x.restore(), 15);

        told("restore() leaves SHELVES and TRAYS as they are.");
        GreedyServers y = said("s000110;");
        y.keep(2, 1, SLACK, 3);
        y.image();
        y.keep(2, 1, STRICT, 4);
        tell(y, 3, 1, 9, 8);
        y.tray(2, HARD, 3);
        y.lays(2, 1, 2);
        y.restore();
        due("a SORT", y.toss(2), 209);
        due("a ROW", y.element(3, 1), 8);
        due("a TRAY", y.laid(2, 1), STRICT);
        due("its size", y.laid(2, 3), -13);
    }

    private static String servers(GreedyServers x) {
        String all = seen(x);
        return all.substring(0, all.indexOf('|'));
    }

    private static void restoreOfNothing() {
        told(31, "-3 there is none.");
        GreedyServers x = said("s000101;j093;t05;");
        refused(x, "none", () -> x.restore(), -3);
        GreedyServers y = new GreedyServers();
        due("of nothing", y.image(), 0);
        say(y, "s000102;j011;j091;j013;t05;");
        due("RESTORED: nothing", y.restore(), 0);
        due("no SERVERS", y.count(0), 0);
        due("no LOCK", y.count(7), -4);
        due("no LATE", y.count(5), 0);
        add(y, HARD, 0, 3, 30);
        int[] first = {HARD, 0, 3, 30, 6, 10000, 0, 0, 0, 0, 0, 60};
        for (int what = 0; what < first.length; what++) {
            due("a new one " + what, y.server(0, what), first[what]);
        }
        due("it HOLDS nothing", y.sends(0, 2, 1) == 1 ? y.job(0, 0, 2) : 9, 0);
    }

    // ---- Said once more

    private static void saidOnceMore() {
        told("of a KIND (or SORT) \"n more\", \"n less\" without more words is: than what the one it is under has;");
        GreedyServers x = new GreedyServers();
        int[][] costs = {{0, 1, 0, 4, 0, 1}, {9, 1, 18, 4, 0, 19}};
        for (int kind = 0; kind < 6; kind++) {
            for (int i = 0; i < 2; i++) {
                x.keep(0, 1, kind, 9 * i);
                due("COST of " + kind + " with FIGURE " + 9 * i, x.cost(0), costs[i][kind]);
            }
        }

        told("ticks() and t: refused, if TICK and n are above 9999 (then no TICK goes).");
        GreedyServers y = said("s000101;");
        goTo(y, 9940);
        y.sends(0, 9, NO_LOCK);
        refused(y, "60", () -> y.ticks(60), -3);
        refused(y, "t60", () -> sayAgain(y, "t60;"), -2000);
        due("59", y.ticks(59), 8);
        due("TICK", y.count(1), 9999);
        refused(y, "1", () -> y.ticks(1), -3);
        refused(y, "t01", () -> sayAgain(y, "t01;"), -2000);

        told("What is told of n TICKS on begins anew with each call.");
        GreedyServers z = said("s200105;s000220;j093;j191;j133;");
        String before = seen(z);
        for (int i = 0; i < 2; i++) {
            due("chosen in the 2nd", z.runs(2, 0), 1);
            due("WORK", z.then(0, 3, 0), 8);
            due("MISSES", z.misses(0), 6);
            due("FIRST", z.misses(-1), 0);
            due("RAN", z.ran(0, 6, 0), 2);
            due("QUIET", z.quiet(0), 41);
            z.send(60);
            z.days(3, 3, 0);
            z.whoRan(1, 0, 0);
        }
        due("nothing is another", seen(z).equals(before) ? 1 : 0, 1);
    }

    private static void refusals() {
        told("REFUSALS (answers; nothing changes): -1 no such one, one twice, a number out of its range; -2 there is no"
            + " room; -3 it is not as it must be; -4 none.");
        GreedyServers x = said("s000110;s200120;j011;j013;j193;t01;");
        noSuchServer(x, -1);
        noSuchServer(x, 2);
        noSuchServer(x, 6);
        noSuchServer(x, MIN);
        noSuchServer(x, MAX);
        GreedyServers none = new GreedyServers();
        noSuchServer(none, 0);
        noSuchServer(none, -1);

        told("Of longs they are Long.MIN_VALUE and 100 less them.");
        due("of -1", none.wide(0), -9223372036854775807L - 1 + 101);
        due("of -1", none.share(0, 0), Long.MIN_VALUE + 101);
        due("of -1", none.breaks(0, 0, 2, 0), Long.MIN_VALUE + 101);
    }

    private static void noSuchServer(GreedyServers x, int s) {
        refused(x, "server " + s, () -> x.server(s, 0), -1);
        refused(x, "job " + s, () -> x.job(s, 0, 0), -1);
        refused(x, "sends " + s, () -> x.sends(s, 1, 3), -1);
        refused(x, "drops " + s, () -> x.drops(s), -1);
        refused(x, "then " + s, () -> x.then(s, 0, 0), -1);
        if (s != -1) {
            refused(x, "misses " + s, () -> x.misses(s), -1);
        }
        refused(x, "ran " + s, () -> x.ran(s, 1, 0), -1);
        refused(x, "needs " + s, () -> x.needs(s, 1), -1);
        refused(x, "alone " + s, () -> x.alone(s, 1), -1);
        refused(x, "kindBest " + s, () -> x.kindBest(s, 1, 0), -1);
        refused(x, "whoRan " + s, () -> x.whoRan(0, s, 0), -1);
        refused(x, "two " + s, () -> x.two(s, 0, 1), -1);
        refused(x, "two and " + s, () -> x.two(0, s, 1), -1);
        refused(x, "breaks " + s, () -> x.breaks(s, 1, 2, 0), REFUSED);
        refused(x, "share " + s, () -> x.share(s, 0), REFUSED);
        refused(x, "bits " + s, () -> x.bits(s), -1);
        refused(x, "wide " + s, () -> x.wide(s), REFUSED);
    }

    private static void whatOfNone() {
        told(3, "what it PAYS for a TICK now (11). -1.");
        GreedyServers x = said("s000110;s200120;j011;j013;j193;t01;");
        for (int what : new int[] {-1, 12, MIN, MAX}) {
            refused(x, "server", () -> x.server(0, what), -1);
        }
        told(4, "its FIRST DEADLINE (3; -4: it is not the JOB now). -1.");
        for (int what : new int[] {-1, 4, MIN, MAX}) {
            refused(x, "job", () -> x.job(0, 0, what), -1);
        }
        told(9, "LATE (4), DONE (5). -1.");
        for (int what : new int[] {-1, 6, MIN, MAX}) {
            refused(x, "then", () -> x.then(0, 1, what), -1);
        }
        told(32, "-1 for others.");
        for (int what : new int[] {-1, 9, MIN, MAX}) {
            refused(x, "count", () -> x.count(what), -1);
        }
        tell(x, 1, 0, 0);
        for (int what : new int[] {-1, 2, MIN, MAX}) {
            told(10, "whose JOB runs (1; -4). -1.");
            refused(x, "runs", () -> x.runs(1, what), -1);
            told(11, "FREE (1; -4). -1.");
            refused(x, "quiet", () -> x.quiet(what), -1);
            told(13, "RAN (what 0), PAID (1). -1.");
            refused(x, "ran", () -> x.ran(0, 1, what), -1);
            told(15, "DEMAND (what 0), FITS (1). -1.");
            refused(x, "demand", () -> x.demand(1, what), -1);
            told(18, "the KIND (what 0), LATE (1). -1.");
            refused(x, "kindBest", () -> x.kindBest(0, 1, what), -1);
            told(21, "KINDS (what 0), FIGURES (1), bits. -1,");
            refused(x, "whoRan", () -> x.whoRan(1, 0, what), -1);
            told(23, "part 0 above, 1 below the line. Refused as told: -1.");
            refused(x, "breaks", () -> x.breaks(0, 1, 2, what), REFUSED);
            told(24, "part likewise. Refused as told: -1.");
            refused(x, "share", () -> x.share(0, what), REFUSED);
            told(29, "LATE (what 0), DONE (1). -1.");
            refused(x, "days", () -> x.days(1, 1, what), -1);
        }
    }

    private static void firstOfSeveral() {
        told("Answers of several REFUSALS are the first one as they are told at the call.");
        GreedyServers x = said(times(6, "s000110;"), "j013;j013;j013;j013;");
        x.row(1, 0, 2);
        x.row(2, 1, 2);
        x.keep(3, 1, HARD, 0);
        x.tray(0, RESTER, 1);
        // SHELF 0 holds the text, 1 bytes, 2 shorts, 3 a SORT, 5 nothing; TRAY 0 is made for RESTERS, 1 is none.
        refused(x, "BUDGET ahead of no SHELF", () -> x.comes(8, 0, 10), -1);
        refused(x, "BUDGET ahead of nothing", () -> x.comes(5, 31, 60), -1);
        refused(x, "PERIOD ahead of a ROW", () -> x.comes(1, 1, 7), -1);
        refused(x, "PERIOD ahead of no room", () -> x.comes(3, 1, 7), -1);
        refused(x, "no SHELF ahead of no room", () -> x.comes(8, 1, 10), -1);
        refused(x, "nothing ahead of no room", () -> x.comes(5, 1, 10), -11);
        refused(x, "a ROW ahead of no room", () -> x.comes(1, 1, 10), -12);
        refused(x, "no room", () -> x.comes(3, 1, 10), -2);
        refused(x, "WORK ahead of no room", () -> x.sends(0, 10, 0), -1);
        refused(x, "LOCK ahead of no room", () -> x.sends(0, 1, 4), -1);
        refused(x, "no SERVER for the ROW ahead of nothing", () -> x.whoRan(5, 6, 0), -1);
        refused(x, "no SERVER for the ROW ahead of a SORT", () -> x.whoRan(3, 6, 0), -1);
        refused(x, "what ahead of nothing", () -> x.whoRan(5, 0, 2), -1);
        refused(x, "what ahead of a SORT", () -> x.whoRan(3, 0, 2), -1);
        refused(x, "no TRAY ahead of a size below 0", () -> x.tray(4, 0, -1), -1);
        refused(x, "no KIND ahead of a size below 0", () -> x.tray(0, 6, -1), -1);
        refused(x, "no kind of ROW ahead of a size below 0", () -> x.row(0, 3, -1), -1);
        refused(x, "no SHELF ahead of a size below 0", () -> x.row(8, 0, -1), -1);
        refused(x, "no such TRAY ahead of none", () -> x.like(4, 1), -1);
        refused(x, "no SHELF ahead of no place", () -> x.put(8, 9, 0), -1);
        refused(x, "nothing ahead of no place", () -> x.put(5, 9, 0), -11);
        refused(x, "a SORT ahead of no place", () -> x.put(3, 9, 0), -12);
        refused(x, "no SHELF ahead of no ROW", () -> thrown(x, 8, 9), 1);
        laysAndCopiesInOrder(x);
        goTo(x, 9999);
        refused(x, "n ahead of TICK above 9999", () -> x.ticks(0), -1);
        refused(x, "n ahead of TICK above 9999", () -> x.ticks(61), -1);
        refused(x, "n ahead of TICK above 9999", () -> x.ticks(MAX), -1);
    }

    private static void laysAndCopiesInOrder(GreedyServers x) {
        refused(x, "no TRAY ahead of a ROW", () -> x.lays(4, 9, 1), -1);
        refused(x, "no SHELF ahead of no TRAY made", () -> x.lays(1, 9, 8), -1);
        refused(x, "a ROW ahead of no TRAY made", () -> x.lays(1, 9, 1), -12);
        refused(x, "a ROW ahead of no place", () -> x.lays(0, 9, 1), -12);
        refused(x, "no TRAY made ahead of no place", () -> x.lays(1, 9, 3), -11);
        refused(x, "no TRAY made, nothing on the SHELF", () -> x.lays(1, 0, 5), -11);
        refused(x, "no place ahead of another SORT", () -> x.lays(0, 1, 3), -13);
        refused(x, "no place, nothing on the SHELF", () -> x.lays(0, 1, 5), -13);
        refused(x, "another SORT", () -> x.lays(0, 0, 3), -16);
        refused(x, "no TRAY ahead of no place", () -> x.laid(4, 9), -1);
        refused(x, "no TRAY made ahead of no place", () -> x.laid(1, 9), -11);
        refused(x, "no place", () -> x.laid(0, 9), -13);
        refused(x, "an empty place", () -> x.laid(0, 0), -11);
        refused(x, "no SHELF ahead of nothing", () -> x.copy(5, 0, 8, 0, 0), -1);
        refused(x, "no SHELF ahead of nothing", () -> x.copy(8, 0, 5, 0, 0), -1);
        refused(x, "nothing ahead of a SORT", () -> x.copy(5, 0, 3, 0, 0), -11);
        refused(x, "nothing ahead of a SORT", () -> x.copy(3, 0, 5, 0, 0), -11);
        refused(x, "nothing ahead of no place", () -> x.copy(1, 9, 5, 9, 9), -11);
        refused(x, "other kinds ahead of no place", () -> x.copy(1, 9, 2, 9, 9), -12);
        refused(x, "a SORT ahead of no place", () -> x.copy(3, 9, 1, 9, 9), -12);
        refused(x, "a SORT ahead of a size below 0", () -> x.copy(1, 0, 3, 0, -1), -12);
    }

    // ---- the promises

    private static void newObject() {
        told(1, "No SERVERS.");
        GreedyServers x = new GreedyServers();
        int[] counts = {0, 0, 0, 0, 0, 0, -4, -4, -4};
        for (int what = 0; what < counts.length; what++) {
            due("count " + what, x.count(what), counts[what]);
        }
        due("its first", x.server(0, 0), -1);
        due("no TICK's LATE", x.ticks(1), 0);
    }

    private static void jobsOfServers() {
        told(4, "Of the i-th JOB of a SERVER:");
        GreedyServers x = said("s000110;s000110;j012;j023;j031;j040;");
        for (int i : new int[] {4, -1, MIN, MAX}) {
            refused(x, "no JOB " + i, () -> x.job(0, i, 0), -1);
        }
        refused(x, "no JOBS", () -> x.job(1, 0, 0), -1);
        due("FIRST DEADLINE of the last of four", x.job(0, 3, 3), -4);
        due("of the first", x.job(0, 0, 3), 10);
        due("LOCK of the last", x.job(0, 3, 1), 0);
        due("one that waits HOLDS none", x.job(0, 3, 2), 0);
        due("no LOCK to HOLD", said("s000160;j023;t01;").job(0, 0, 2), 0);

        told(6, "A JOB COMES: how many the SERVER has. -1 (SERVER, WORK, LOCK 0 .. 3), -2 it has 4.");
        refused(x, "it has 4", () -> x.sends(0, 1, 3), -2);
        for (int i = 1; i <= 4; i++) {
            due("how many", x.sends(1, 1, 3), i);
        }
        refused(x, "it has 4, too", () -> x.sends(1, 1, 3), -2);
        for (int wild : new int[] {MIN, MAX}) {
            refused(x, "WORK", () -> x.sends(1, wild, 3), -1);
            refused(x, "LOCK", () -> x.sends(1, 1, wild), -1);
        }

        told(7, "All JOBS of a SERVER go (what they HOLD is free), it is IDLE: how many. -1.");
        due("four", x.drops(0), 4);
        due("none left", x.drops(0), 0);
        due("IDLE", x.server(0, 7), IDLE);
        dropsWhatIsHeld();
    }

    private static void dropsWhatIsHeld() {
        GreedyServers x = said("s200110;s000530;j031;j191;t01;");
        due("HELD", x.count(7), 0);
        due("one, RESTING", x.drops(0), 1);
        due("IDLE", x.server(0, 7), IDLE);
        due("free", x.count(7), -4);
        due("LATER ones run their own", x.runs(1, 1), 1);
        due("a JOB with the same LOCK", x.sends(0, 3, 1), 1);
        due("has not run", x.job(0, 0, 2), 0);
        due("HOLDS it not", x.count(7), -4);
        x = said("s000410;j013;t01;");
        due("LINGERING: none", x.drops(0), 0);
        due("IDLE", x.server(0, 7), IDLE);
        due("no LOAD", x.count(2), 0);
        due("a new one: none", said("s000110;").drops(0), 0);
    }

    private static void tickBounds() {
        told(8, "n TICKS (1 .. 60): LATE of all together. -1, -3 TICK above 9999.");
        GreedyServers x = said("s000101;s000101;j093;");
        for (int n : new int[] {0, 61, -1, MIN, MAX}) {
            refused(x, "n " + n, () -> x.ticks(n), -1);
        }
        due("1", x.ticks(1), 0);
        due("TICK", x.count(1), 1);
        due("60", x.ticks(60), 8);
        due("TICK", x.count(1), 61);
        x.sends(1, 9, NO_LOCK);
        due("of all together", x.ticks(60), 16);
        due("without SERVERS", new GreedyServers().ticks(60), 0);

        told(12, "MISSES (-4); FIRST (s -1; -4). -1 (s below -1, too).");
        for (int s : new int[] {-2, -3, 2, 6, MIN, MAX}) {
            refused(x, "s " + s, () -> x.misses(s), -1);
        }
        due("s -1", x.misses(-1), -4);

        told(30, "THE IMAGE is taken: TICK.");
        due("at first", new GreedyServers().image(), 0);
        goTo(x, 9999);
        due("at last", x.image(), 9999);
        told(31, "THE IMAGE is RESTORED: TICK.");
        due("at last", x.restore(), 9999);
        refused(x, "no TICK more", () -> x.ticks(1), -3);
    }

    private static void counts() {
        told(32, "3 READY ones (bits), 4 JOBS of all, 5 LATE of all, 6 .. 8 whose JOB HOLDS LOCK 0 .. 2 (-4);");
        GreedyServers x = said(times(6, "s000160;"));
        due("no READY ones", x.count(3), 0);
        due("no JOBS", x.count(4), 0);
        for (int s = 0; s < 6; s++) {
            for (int i = 0; i < 4; i++) {
                x.sends(s, 9, s < 3 ? s : NO_LOCK);
            }
        }
        due("all READY", x.count(3), 63);
        due("six times four", x.count(4), 24);
        due("nobody HOLDS", x.count(6) + x.count(7) + x.count(8), -12);
        // Each runs in one of the first six TICKS and has DEADLINE 120 then.
        x.ticks(6);
        due("LOCK 0", x.count(6), 0);
        due("LOCK 1", x.count(7), 1);
        due("LOCK 2", x.count(8), 2);
        x.drops(1);
        due("LOCK 1 is free", x.count(7), -4);
        due("the last is READY, 1 is not", x.count(3), 61);
        due("a LOCK that none is", said("s000160;j093;t01;").count(6), -4);
    }

    private static void trayPlaces() {
        told(33, "A TRAY becomes a row of n places (all empty), made for a KIND: 1. -1 (TRAY, KIND, n above 20), -14.");
        GreedyServers x = new GreedyServers();
        due("20 places", x.tray(0, HARD, 20), 1);
        due("the last is empty", x.laid(0, 19), -11);
        due("no 21st", x.laid(0, 20), -13);
        x.keep(0, 1, STRICT, 0);
        x.lays(0, 0, 0);
        x.lays(0, 19, 0);
        for (int n : new int[] {21, MAX}) {
            refused(x, "n " + n, () -> x.tray(0, HARD, n), -1);
        }
        for (int n : new int[] {-1, MIN}) {
            refused(x, "n " + n, () -> x.tray(0, HARD, n), -14);
        }
        for (int kind : new int[] {-1, 6, MIN, MAX}) {
            refused(x, "KIND " + kind, () -> x.tray(0, kind, 1), -1);
        }
        due("as it was", x.laid(0, 19), STRICT);
        due("anew", x.tray(0, STRICT, 20), 1);
        due("empty", x.laid(0, 0), -11);
        due("empty", x.laid(0, 19), -11);
        due("no places", x.tray(0, HARD, 0), 1);
        due("no first", x.laid(0, 0), -13);

        told(34, "The SORT on SHELF d comes to place i of a TRAY, too (nothing on the SHELF: the place is empty): 1.");
        x.tray(1, RESTER, 20);
        for (int i : new int[] {20, -1, MIN, MAX}) {
            refused(x, "place " + i, () -> x.lays(1, i, 0), -13);
        }
        due("the first place", x.lays(1, 0, 0), 1);
        due("the last place", x.lays(1, 19, 0), 1);
        due("it is on the SHELF, too", x.cost(0), 1);
        x.keep(0, 1, RESTER, 0);
        due("in its place", x.lays(1, 19, 0), 1);
        due("the last has it", x.laid(1, 19), RESTER);
        due("the first keeps its own", x.laid(1, 0), STRICT);
        due("nothing", x.lays(1, 0, 3), 1);
        due("the first is empty", x.laid(1, 0), -11);
        due("nothing on an empty place", x.lays(1, 0, 3), 1);
        refused(x, "a SORT that it isn't made for", () -> x.keep(0, 1, GREEDY, 0) + x.lays(1, 19, 0)
            + x.keep(0, 1, RESTER, 0), -16);
    }

    private static void trayLike() {
        told(35, "What is at place i: its KIND. -1, -11 (the TRAY), -13, -11 (the place).");
        GreedyServers x = new GreedyServers();
        refused(x, "no TRAY made", () -> x.laid(0, 0), -11);
        x.tray(0, HARD, 2);
        for (int i : new int[] {2, -1, MIN, MAX}) {
            refused(x, "place " + i, () -> x.laid(0, i), -13);
        }
        for (int kind = 0; kind < 6; kind++) {
            x.keep(0, 1, kind, 0);
            x.lays(0, 1, 0);
            due("its KIND", x.laid(0, 1), kind);
        }
        due("the other place", x.laid(0, 0), -11);

        told(36, "A TRAY becomes a row like another one, as that is now: its size. -1 either, -11 the other one.");
        refused(x, "no other one made", () -> x.like(0, 1), -11);
        refused(x, "none like itself", () -> x.like(1, 1), -11);
        due("one that was none", x.like(1, 0), 2);
        due("the last place", x.laid(1, 1), STRICT);
        due("no more", x.laid(1, 2), -13);
        x.lays(0, 1, 7);
        due("as that was then", x.laid(1, 1), STRICT);
        x.tray(2, GREEDY, 0);
        due("size 0", x.like(1, 2), 0);
        due("no place", x.laid(1, 0), -13);
        x.tray(2, GREEDY, 20);
        due("size 20", x.like(1, 2), 20);
        due("made for the same", x.lays(1, 19, 0), -16);
        x.keep(0, 1, MILD, 0);
        due("and those under it", x.lays(1, 19, 0), 1);
        due("the other one stays", x.laid(2, 19), -11);
        due("like itself", x.like(1, 1), 20);
        due("as it is", x.laid(1, 19), MILD);
    }

    private static void keepAndRow() {
        told(37, "SHELF d gets: what = 0 nothing (the others do not matter); 1 a SORT of SERVER of KIND k with a FIGURE:"
            + " 0. -1.");
        GreedyServers x = new GreedyServers();
        x.keep(0, 1, HARD, 9);
        for (int wild : new int[] {-1, 6, MIN, MAX}) {
            refused(x, "KIND " + wild, () -> x.keep(0, 1, wild, 0), -1);
        }
        for (int wild : new int[] {-1, 10, MIN, MAX}) {
            refused(x, "FIGURE " + wild, () -> x.keep(0, 1, 0, wild), -1);
        }
        for (int wild : new int[] {-1, 2, MIN, MAX}) {
            refused(x, "what " + wild, () -> x.keep(0, wild, 0, 0), -1);
        }
        due("the least", x.keep(0, 1, 0, 0), 0);
        due("the greatest", x.keep(0, 1, 5, 9), 0);
        due("nothing: the others do not matter", x.keep(0, 0, MAX, MIN), 0);
        due("nothing", x.cost(0), -11);
        due("nothing of nothing", x.keep(0, 0, -1, -1), 0);
        x.row(0, 0, 2);
        due("nothing of a ROW", x.keep(0, 0, 6, 10), 0);
        due("nothing", x.put(0, 0, 0), -11);

        told(38, "SHELF d gets a ROW of a kind (sort): 0. -1 (n above 100); -14.");
        x.row(0, 0, 2);
        x.put(0, 1, 5);
        for (int n : new int[] {101, MAX}) {
            refused(x, "n " + n, () -> x.row(0, 0, n), -1);
        }
        for (int n : new int[] {-1, MIN}) {
            refused(x, "n " + n, () -> x.row(0, 0, n), -14);
        }
        for (int sort : new int[] {-1, 3, MIN, MAX}) {
            refused(x, "sort " + sort, () -> x.row(0, sort, 1), -1);
        }
        due("as it was", x.element(0, 1), 5);
    }

    private static void putAndElement() {
        told(39, "Element i of the ROW becomes v: 0. -1, -11, -12, -13.");
        GreedyServers x = new GreedyServers();
        refused(x, "nothing", () -> x.put(0, 0, 0), -11);
        x.keep(0, 1, HARD, 0);
        refused(x, "a SORT", () -> x.put(0, 0, 0), -12);
        x.row(0, 2, 3);
        for (int i : new int[] {3, -1, MIN, MAX}) {
            refused(x, "place " + i, () -> x.put(0, i, 7), -13);
        }
        due("the first", x.put(0, 0, 7), 0);
        due("the last", x.put(0, 2, 9), 0);
        due("between", x.element(0, 1), 0);

        told(40, "Element i of the ROW. IllegalArgumentException: no such SHELF; IllegalStateException: no ROW, no such"
            + " place.");
        due("the first", x.element(0, 0), 7);
        due("the last", x.element(0, 2), 9);
        for (int i : new int[] {3, -1, MIN, MAX}) {
            refused(x, "place " + i, () -> thrown(x, 0, i), 2);
        }
        refused(x, "nothing", () -> thrown(x, 1, 0), 2);
        x.keep(1, 1, HARD, 0);
        refused(x, "a SORT", () -> thrown(x, 1, 0), 2);
        x.row(1, 0, 0);
        refused(x, "a ROW of 0", () -> thrown(x, 1, 0), 2);
        for (int d : new int[] {-1, 8, MIN, MAX}) {
            refused(x, "SHELF " + d, () -> thrown(x, d, 0), 1);
        }
    }

    private static void copies() {
        told(41, "n elements of the ROW in SHELF d from i on come to that in SHELF e from j on: n. -1, -11 (either), -12"
            + " (no ROWS of one kind), -13.");
        GreedyServers x = new GreedyServers();
        tell(x, 0, 1, 1, 2, 3);
        tell(x, 1, 1, 4, 5);
        x.row(2, 1, 0);
        due("none of none", x.copy(2, 0, 2, 0, 0), 0);
        due("none, at both ends", x.copy(0, 3, 1, 2, 0), 0);
        refused(x, "none, behind the one's end", () -> x.copy(0, 4, 1, 2, 0), -13);
        refused(x, "none, behind the other's end", () -> x.copy(0, 3, 1, 3, 0), -13);
        refused(x, "one, at the one's end", () -> x.copy(0, 3, 1, 0, 1), -13);
        refused(x, "one, at the other's end", () -> x.copy(0, 0, 1, 2, 1), -13);
        refused(x, "more than the one has", () -> x.copy(1, 0, 0, 0, 3), -13);
        refused(x, "more than the other has", () -> x.copy(0, 0, 1, 0, 3), -13);
        refused(x, "i below 0", () -> x.copy(0, -1, 1, 0, 1), -13);
        refused(x, "j below 0", () -> x.copy(0, 0, 1, -1, 1), -13);
        refused(x, "n below 0", () -> x.copy(0, 1, 1, 1, -1), -13);
        for (int[] wild : new int[][] {{MAX, 0, 1}, {0, MAX, 1}, {0, 0, MAX}, {MIN, 0, 1}, {0, MIN, 1}, {0, 0, MIN},
            {1, 1, MAX}, {MAX, MAX, MAX}, {MIN, MIN, MIN}, {1, 1, MIN}, {MAX, 0, MIN}, {2, 0, MAX - 1}}) {
            refused(x, "sums that wrap around", () -> x.copy(0, wild[0], 1, wild[1], wild[2]), -13);
        }
        due("all of the other", x.copy(0, 1, 1, 0, 2), 2);
        due("its first", x.element(1, 0), 2);
        due("its last", x.element(1, 1), 3);
        due("onto itself, all of it", x.copy(0, 0, 0, 0, 3), 3);
        due("onto itself, one on", x.copy(0, 0, 0, 1, 2), 2);
        due("as they were", 100 * x.element(0, 0) + 10 * x.element(0, 1) + x.element(0, 2), 112);
        tell(x, 0, 1, 1, 2, 3);
        due("onto itself, one back", x.copy(0, 1, 0, 0, 2), 2);
        due("as they were", 100 * x.element(0, 0) + 10 * x.element(0, 1) + x.element(0, 2), 233);
        x.row(3, 2, 100);
        x.row(4, 2, 100);
        x.put(3, 99, MIN);
        due("a full ROW", x.copy(3, 0, 4, 0, 100), 100);
        due("its last", x.element(4, 99), MIN);
        refused(x, "shorts and ints", () -> x.copy(0, 0, 3, 0, 1), -12);
    }

    private static void fails() {
        told(42, "COST of the one on SHELF d: HARD FIGURE; GREEDY 1; RESTER twice FIGURE; SLACK 3 more than a GREEDY;"
            + " MILD 0; STRICT 1 more than a RESTER. -1, -11, -12 (a ROW).");
        GreedyServers x = new GreedyServers();
        refused(x, "nothing", () -> x.cost(0), -11);
        refused(x, "nothing", () -> x.toss(0), -11);
        for (int sort = 0; sort < 3; sort++) {
            x.row(0, sort, 0);
            refused(x, "a ROW", () -> x.cost(0), -12);
            refused(x, "a ROW", () -> x.toss(0), -12);
        }
        int[][] costs = {{0, 1, 0, 4, 0, 1}, {1, 1, 2, 4, 0, 3}, {9, 1, 18, 4, 0, 19}};
        int[][] fails = {{-15, -15, -15, -15, -15, -15}, {1, 101, -15, 101, 101, 203}, {9, 109, -15, 109, 109, 219}};
        int[] figures = {0, 1, 9};
        for (int i = 0; i < 3; i++) {
            for (int kind = 0; kind < 6; kind++) {
                x.keep(0, 1, kind, figures[i]);
                told(42, "-1, -11, -12 (a ROW).");
                due("COST of KIND " + kind + " with " + figures[i], x.cost(0), costs[i][kind]);
                told(43, "-15: RESTERS, and any with FIGURE 0, have none.");
                due("FAILURE of KIND " + kind + " with " + figures[i], x.toss(0), fails[i][kind]);
            }
        }
    }

    private static void rowsWanted() {
        String[] words = {"The text in SHELF d: how many STATEMENTS; the FAULT. -1, -11, -12 (no ROW of bytes).",
            "WHO RAN by the ROW in SHELF d: KINDS (what 0), FIGURES (1), bits. -1, -11, -12 (no ROW).",
            "FORGED by the ROW in SHELF d; -4. -1, -11, -12.", "JUDGED by the ROW in SHELF d; -4. -1, -11, -12."};
        int[] promises = {2, 21, 27, 28};
        GreedyServers x = said("s000110;");
        x.keep(2, 1, HARD, 5);
        for (int i = 0; i < 4; i++) {
            int call = i;
            told(promises[i], words[i]);
            for (int d : new int[] {-1, 8, MIN, MAX}) {
                refused(x, "SHELF " + d, () -> readsRow(x, call, d), -1);
            }
            refused(x, "nothing", () -> readsRow(x, call, 1), -11);
            refused(x, "a SORT", () -> readsRow(x, call, 2), -12);
            for (int sort = 0; sort < 3; sort++) {
                x.row(3, sort, 0);
                int ofNone = call == 0 ? sort == 0 ? -1000 : -12 : call == 1 ? 63 : -4;
                due("an empty ROW of kind " + sort, readsRow(x, call, 3), ofNone);
            }
        }
        told(2, "-12 (no ROW of bytes).");
        for (int sort = 1; sort < 3; sort++) {
            tell(x, 3, sort, 't', '0', '1', ';');
            refused(x, "no bytes, kind " + sort, () -> x.text(3), -12);
        }
        tell(x, 3, 0, 't', '0', '1', ';');
        due("bytes", x.text(3), 1);

        told(5, "The one on SHELF d is a SERVER more: its number. -1 (BUDGET, PERIOD), -1, -11, -12 (a ROW), -2.");
        refused(x, "nothing", () -> x.comes(1, 1, 10), -11);
        refused(x, "a ROW", () -> x.comes(3, 1, 10), -12);
        due("a SORT", x.comes(2, 1, 10), 1);
        due("it stays on the SHELF", x.cost(2), 5);
        due("a SORT again", x.comes(2, 1, 10), 2);
        due("its FIGURE", x.server(2, 1), 5);
    }

    private static int readsRow(GreedyServers x, int call, int d) {
        switch (call) {
            case 0: return x.text(d);
            case 1: return x.whoRan(d, 0, 0);
            case 2: return x.forged(d);
            default: return x.judge(d);
        }
    }

    private static void numbersOutOfRange() {
        told(14, "ADMITTED. -1 (BUDGET, PERIOD).");
        GreedyServers x = said("s000110;j093;t01;");
        for (int[] pair : new int[][] {{0, 60}, {31, 60}, {1, 0}, {1, 7}, {1, 61}, {1, 120}, {1, -1}, {7, 6}, {30, 20},
            {MIN, 60}, {MAX, 60}, {1, MIN}, {1, MAX}, {-1, -1}}) {
            refused(x, pair[0] + " in " + pair[1], () -> x.admitted(pair[0], pair[1]), -1);
            x.keep(3, 1, HARD, 0);
            refused(x, pair[0] + " in " + pair[1], () -> x.comes(3, pair[0], pair[1]), -1);
        }
        told(16, "NEEDS; -4. -1.");
        refused(x, "61", () -> x.needs(0, 61), -1);
        told(17, "ALONE. -1.");
        refused(x, "61", () -> x.alone(0, 61), -1);
        told(19, "SEND; -4. -1.");
        refused(x, "61", () -> x.send(61), -1);
        told(20, "LOAD now (n 0), LEAST LOAD. -1.");
        due("n 0", x.load(0), 6);
        refused(x, "100", () -> x.load(100), -1);
        refused(x, "-1", () -> x.load(-1), -1);
        told(25, "BITS. -1.");
        refused(x, "behind the last", () -> x.bits(1), -1);
        told(26, "WIDE. Refused as told: -1.");
        refused(x, "behind the last", () -> x.wide(1), REFUSED);
    }

    public static void main(String[] args) throws IOException {
        readDocument();
        use();
        tick();
        servers();
        budgets();
        jobs();
        states();
        lateAndDone();
        paysHardAndGreedy();
        paysOthers();
        refill();
        comes();
        firstDeadline();
        tickWakes();
        tickChooses();
        tickPays();
        tickEnds();
        textForm();
        textJobsAndTicks();
        textFaults();
        textSaidOnceMore();
        inMind();
        whoIsChosen();
        quietAndFree();
        misses();
        admission();
        needs();
        aloneAndKindBest();
        sendAndLoad();
        whoRan();
        two();
        breaks();
        shares();
        bitsAndWide();
        forged();
        judged();
        days();
        shelves();
        trays();
        image();
        restoreOfNothing();
        saidOnceMore();
        refusals();
        whatOfNone();
        firstOfSeveral();
        newObject();
        jobsOfServers();
        tickBounds();
        counts();
        trayPlaces();
        trayLike();
        keepAndRow();
        putAndElement();
        copies();
        fails();
        rowsWanted();
        numbersOutOfRange();
        for (int p = 0; p <= PROMISES; p++) {
            told("");
            due("promise " + p + " has a test here", TESTED[p] ? 1 : 0, 1);
        }
        System.out.println(checks + " checks, " + wrong + " wrong");
        if (wrong != 0) {
            System.exit(1);
        }
    }
}
